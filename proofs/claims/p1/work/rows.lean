section
-- ===== PART A: goes FIRST, ahead of the names: the tables' words, and 'selects' of the private methods out of them =====
/-- a private method of a class that the tables say can be made, by its rows of tables_1 -/
def lw_okq (q : MethodName × Nat) : Prop := (q.1.cls ≠ "java/lang/invoke/MethodHandle" ∧ q.1.cls ≠ "java/lang/invoke/VarHandle") ∧ Cond.instantiable q.1.cls q.2 ∈ tables_1 ∧ Cond.privateMethod q.1 ∈ tables_1 ∧ Cond.instanceMethod q.1 ∈ tables_1
theorem lw_p0 : lw_okq (⟨"HollowWall", "trayAt", "(I)LHollowWall$Tray;"⟩, 19) := ⟨⟨by decide +kernel, by decide +kernel⟩, List.mem_of_getElem? (i := 21) (by decide +kernel), List.mem_of_getElem? (i := 522) (by decide +kernel), List.mem_of_getElem? (i := 523) (by decide +kernel)⟩
theorem lw_p1 : lw_okq (⟨"HollowWall", "deny", "(I)Z"⟩, 19) := ⟨⟨by decide +kernel, by decide +kernel⟩, List.mem_of_getElem? (i := 21) (by decide +kernel), List.mem_of_getElem? (i := 529) (by decide +kernel), List.mem_of_getElem? (i := 530) (by decide +kernel)⟩
theorem lw_p2 : lw_okq (⟨"HollowWall", "accept", "()Z"⟩, 19) := ⟨⟨by decide +kernel, by decide +kernel⟩, List.mem_of_getElem? (i := 21) (by decide +kernel), List.mem_of_getElem? (i := 540) (by decide +kernel), List.mem_of_getElem? (i := 541) (by decide +kernel)⟩
theorem lw_p3 : lw_okq (⟨"HollowWall", "refuse", "(I)I"⟩, 19) := ⟨⟨by decide +kernel, by decide +kernel⟩, List.mem_of_getElem? (i := 21) (by decide +kernel), List.mem_of_getElem? (i := 563) (by decide +kernel), List.mem_of_getElem? (i := 564) (by decide +kernel)⟩
theorem lw_p4 : lw_okq (⟨"HollowWall$Text", "passToken", "(I)V"⟩, 10) := ⟨⟨by decide +kernel, by decide +kernel⟩, List.mem_of_getElem? (i := 31) (by decide +kernel), List.mem_of_getElem? (i := 610) (by decide +kernel), List.mem_of_getElem? (i := 611) (by decide +kernel)⟩
theorem lw_p5 : lw_okq (⟨"HollowWall$WallReader", "readOath", "(LHollowWall$Text;)Z"⟩, 4) := ⟨⟨by decide +kernel, by decide +kernel⟩, List.mem_of_getElem? (i := 247) (by decide +kernel), List.mem_of_getElem? (i := 614) (by decide +kernel), List.mem_of_getElem? (i := 615) (by decide +kernel)⟩
theorem lw_p6 : lw_okq (⟨"HollowWall$WallReader", "readCourse", "(LHollowWall$Text;)Z"⟩, 4) := ⟨⟨by decide +kernel, by decide +kernel⟩, List.mem_of_getElem? (i := 247) (by decide +kernel), List.mem_of_getElem? (i := 703) (by decide +kernel), List.mem_of_getElem? (i := 704) (by decide +kernel)⟩
theorem lw_p7 : lw_okq (⟨"HollowWall$WallReader", "readMason", "(LHollowWall$Text;)Z"⟩, 4) := ⟨⟨by decide +kernel, by decide +kernel⟩, List.mem_of_getElem? (i := 247) (by decide +kernel), List.mem_of_getElem? (i := 714) (by decide +kernel), List.mem_of_getElem? (i := 715) (by decide +kernel)⟩
theorem lw_p8 : lw_okq (⟨"HollowWall$WallReader", "takeName", "(LHollowWall$Text;)Z"⟩, 4) := ⟨⟨by decide +kernel, by decide +kernel⟩, List.mem_of_getElem? (i := 247) (by decide +kernel), List.mem_of_getElem? (i := 718) (by decide +kernel), List.mem_of_getElem? (i := 719) (by decide +kernel)⟩
theorem lw_p9 : lw_okq (⟨"HollowWall$Text", "isReservedFrom", "(I)Z"⟩, 10) := ⟨⟨by decide +kernel, by decide +kernel⟩, List.mem_of_getElem? (i := 31) (by decide +kernel), List.mem_of_getElem? (i := 727) (by decide +kernel), List.mem_of_getElem? (i := 728) (by decide +kernel)⟩
theorem lw_p10 : lw_okq (⟨"HollowWall$WallReader", "readSlip", "(LHollowWall$Text;)Z"⟩, 4) := ⟨⟨by decide +kernel, by decide +kernel⟩, List.mem_of_getElem? (i := 247) (by decide +kernel), List.mem_of_getElem? (i := 742) (by decide +kernel), List.mem_of_getElem? (i := 743) (by decide +kernel)⟩
theorem lw_p11 : lw_okq (⟨"HollowWall$WallReader", "readFind", "(LHollowWall$Text;)Z"⟩, 4) := ⟨⟨by decide +kernel, by decide +kernel⟩, List.mem_of_getElem? (i := 247) (by decide +kernel), List.mem_of_getElem? (i := 757) (by decide +kernel), List.mem_of_getElem? (i := 758) (by decide +kernel)⟩
theorem lw_p12 : lw_okq (⟨"HollowWall$Wall", "layByMasons", "()V"⟩, 19) := ⟨⟨by decide +kernel, by decide +kernel⟩, List.mem_of_getElem? (i := 83) (by decide +kernel), List.mem_of_getElem? (i := 770) (by decide +kernel), List.mem_of_getElem? (i := 771) (by decide +kernel)⟩
theorem lw_p13 : lw_okq (⟨"HollowWall$Wall", "countStones", "()V"⟩, 19) := ⟨⟨by decide +kernel, by decide +kernel⟩, List.mem_of_getElem? (i := 83) (by decide +kernel), List.mem_of_getElem? (i := 775) (by decide +kernel), List.mem_of_getElem? (i := 776) (by decide +kernel)⟩
theorem lw_p14 : lw_okq (⟨"HollowWall", "answer", "(I)I"⟩, 19) := ⟨⟨by decide +kernel, by decide +kernel⟩, List.mem_of_getElem? (i := 21) (by decide +kernel), List.mem_of_getElem? (i := 791) (by decide +kernel), List.mem_of_getElem? (i := 792) (by decide +kernel)⟩
theorem lw_p15 : lw_okq (⟨"HollowWall$RoundReader", "readEnd", "(LHollowWall$Text;)Z"⟩, 3) := ⟨⟨by decide +kernel, by decide +kernel⟩, List.mem_of_getElem? (i := 269) (by decide +kernel), List.mem_of_getElem? (i := 807) (by decide +kernel), List.mem_of_getElem? (i := 808) (by decide +kernel)⟩
def lw_privs_1 : List (MethodName × Nat) := [(⟨"HollowWall", "trayAt", "(I)LHollowWall$Tray;"⟩, 19), (⟨"HollowWall", "deny", "(I)Z"⟩, 19), (⟨"HollowWall", "accept", "()Z"⟩, 19), (⟨"HollowWall", "refuse", "(I)I"⟩, 19), (⟨"HollowWall$Text", "passToken", "(I)V"⟩, 10), (⟨"HollowWall$WallReader", "readOath", "(LHollowWall$Text;)Z"⟩, 4), (⟨"HollowWall$WallReader", "readCourse", "(LHollowWall$Text;)Z"⟩, 4), (⟨"HollowWall$WallReader", "readMason", "(LHollowWall$Text;)Z"⟩, 4), (⟨"HollowWall$WallReader", "takeName", "(LHollowWall$Text;)Z"⟩, 4), (⟨"HollowWall$Text", "isReservedFrom", "(I)Z"⟩, 10), (⟨"HollowWall$WallReader", "readSlip", "(LHollowWall$Text;)Z"⟩, 4), (⟨"HollowWall$WallReader", "readFind", "(LHollowWall$Text;)Z"⟩, 4), (⟨"HollowWall$Wall", "layByMasons", "()V"⟩, 19), (⟨"HollowWall$Wall", "countStones", "()V"⟩, 19), (⟨"HollowWall", "answer", "(I)I"⟩, 19), (⟨"HollowWall$RoundReader", "readEnd", "(LHollowWall$Text;)Z"⟩, 3)]
theorem lw_r1 : ∀ q ∈ lw_privs_1, lw_okq q := List.forall_mem_cons.mpr ⟨lw_p0, List.forall_mem_cons.mpr ⟨lw_p1, List.forall_mem_cons.mpr ⟨lw_p2, List.forall_mem_cons.mpr ⟨lw_p3, List.forall_mem_cons.mpr ⟨lw_p4, List.forall_mem_cons.mpr ⟨lw_p5, List.forall_mem_cons.mpr ⟨lw_p6, List.forall_mem_cons.mpr ⟨lw_p7, List.forall_mem_cons.mpr ⟨lw_p8, List.forall_mem_cons.mpr ⟨lw_p9, List.forall_mem_cons.mpr ⟨lw_p10, List.forall_mem_cons.mpr ⟨lw_p11, List.forall_mem_cons.mpr ⟨lw_p12, List.forall_mem_cons.mpr ⟨lw_p13, List.forall_mem_cons.mpr ⟨lw_p14, List.forall_mem_cons.mpr ⟨lw_p15, fun _ h => absurd h List.not_mem_nil⟩⟩⟩⟩⟩⟩⟩⟩⟩⟩⟩⟩⟩⟩⟩⟩
theorem lw_p16 : lw_okq (⟨"HollowWall$RoundReader", "readStep", "(LHollowWall$Text;)Z"⟩, 3) := ⟨⟨by decide +kernel, by decide +kernel⟩, List.mem_of_getElem? (i := 269) (by decide +kernel), List.mem_of_getElem? (i := 823) (by decide +kernel), List.mem_of_getElem? (i := 824) (by decide +kernel)⟩
theorem lw_p17 : lw_okq (⟨"HollowWall$RoundReader", "readRest", "(LHollowWall$Text;I)Z"⟩, 3) := ⟨⟨by decide +kernel, by decide +kernel⟩, List.mem_of_getElem? (i := 269) (by decide +kernel), List.mem_of_getElem? (i := 839) (by decide +kernel), List.mem_of_getElem? (i := 840) (by decide +kernel)⟩
theorem lw_p18 : lw_okq (⟨"HollowWall$RoundReader", "readTest", "(LHollowWall$Text;I)Z"⟩, 3) := ⟨⟨by decide +kernel, by decide +kernel⟩, List.mem_of_getElem? (i := 269) (by decide +kernel), List.mem_of_getElem? (i := 844) (by decide +kernel), List.mem_of_getElem? (i := 845) (by decide +kernel)⟩
theorem lw_p19 : lw_okq (⟨"HollowWall", "answerOrNothing", "(I)I"⟩, 19) := ⟨⟨by decide +kernel, by decide +kernel⟩, List.mem_of_getElem? (i := 21) (by decide +kernel), List.mem_of_getElem? (i := 889) (by decide +kernel), List.mem_of_getElem? (i := 890) (by decide +kernel)⟩
theorem lw_p20 : lw_okq (⟨"HollowWall$Readings", "followFromBehind", "(I)V"⟩, 14) := ⟨⟨by decide +kernel, by decide +kernel⟩, List.mem_of_getElem? (i := 288) (by decide +kernel), List.mem_of_getElem? (i := 985) (by decide +kernel), List.mem_of_getElem? (i := 986) (by decide +kernel)⟩
theorem lw_p21 : lw_okq (⟨"HollowWall$Readings", "followBehind", "(III)V"⟩, 14) := ⟨⟨by decide +kernel, by decide +kernel⟩, List.mem_of_getElem? (i := 288) (by decide +kernel), List.mem_of_getElem? (i := 990) (by decide +kernel), List.mem_of_getElem? (i := 991) (by decide +kernel)⟩
theorem lw_p22 : lw_okq (⟨"HollowWall$Readings", "offer", "(II)V"⟩, 14) := ⟨⟨by decide +kernel, by decide +kernel⟩, List.mem_of_getElem? (i := 288) (by decide +kernel), List.mem_of_getElem? (i := 995) (by decide +kernel), List.mem_of_getElem? (i := 996) (by decide +kernel)⟩
theorem lw_p23 : lw_okq (⟨"HollowWall$Readings", "priceOf", "(III)I"⟩, 14) := ⟨⟨by decide +kernel, by decide +kernel⟩, List.mem_of_getElem? (i := 288) (by decide +kernel), List.mem_of_getElem? (i := 1002) (by decide +kernel), List.mem_of_getElem? (i := 1003) (by decide +kernel)⟩
theorem lw_p24 : lw_okq (⟨"HollowWall$Readings", "mayStart", "(I)Z"⟩, 14) := ⟨⟨by decide +kernel, by decide +kernel⟩, List.mem_of_getElem? (i := 288) (by decide +kernel), List.mem_of_getElem? (i := 1006) (by decide +kernel), List.mem_of_getElem? (i := 1007) (by decide +kernel)⟩
theorem lw_p25 : lw_okq (⟨"HollowWall$Readings", "waysAt", "(I)I"⟩, 14) := ⟨⟨by decide +kernel, by decide +kernel⟩, List.mem_of_getElem? (i := 288) (by decide +kernel), List.mem_of_getElem? (i := 1010) (by decide +kernel), List.mem_of_getElem? (i := 1011) (by decide +kernel)⟩
theorem lw_p26 : lw_okq (⟨"HollowWall$Readings", "traceFirst", "(I)I"⟩, 14) := ⟨⟨by decide +kernel, by decide +kernel⟩, List.mem_of_getElem? (i := 288) (by decide +kernel), List.mem_of_getElem? (i := 1026) (by decide +kernel), List.mem_of_getElem? (i := 1027) (by decide +kernel)⟩
theorem lw_p27 : lw_okq (⟨"HollowWall$Readings", "traceStone", "(III)I"⟩, 14) := ⟨⟨by decide +kernel, by decide +kernel⟩, List.mem_of_getElem? (i := 288) (by decide +kernel), List.mem_of_getElem? (i := 1030) (by decide +kernel), List.mem_of_getElem? (i := 1031) (by decide +kernel)⟩
theorem lw_p28 : lw_okq (⟨"HollowWall$Readings", "followAhead", "(II)V"⟩, 14) := ⟨⟨by decide +kernel, by decide +kernel⟩, List.mem_of_getElem? (i := 288) (by decide +kernel), List.mem_of_getElem? (i := 1050) (by decide +kernel), List.mem_of_getElem? (i := 1051) (by decide +kernel)⟩
theorem lw_p29 : lw_okq (⟨"HollowWall$Readings", "isLeastAt", "(II)Z"⟩, 14) := ⟨⟨by decide +kernel, by decide +kernel⟩, List.mem_of_getElem? (i := 288) (by decide +kernel), List.mem_of_getElem? (i := 1058) (by decide +kernel), List.mem_of_getElem? (i := 1059) (by decide +kernel)⟩
theorem lw_p30 : lw_okq (⟨"HollowWall", "tellFraction", "(JJ)V"⟩, 19) := ⟨⟨by decide +kernel, by decide +kernel⟩, List.mem_of_getElem? (i := 21) (by decide +kernel), List.mem_of_getElem? (i := 1071) (by decide +kernel), List.mem_of_getElem? (i := 1072) (by decide +kernel)⟩
theorem lw_p31 : lw_okq (⟨"HollowWall$Telling", "gather", "(LHollowWall$Readings;I)V"⟩, 6) := ⟨⟨by decide +kernel, by decide +kernel⟩, List.mem_of_getElem? (i := 347) (by decide +kernel), List.mem_of_getElem? (i := 1090) (by decide +kernel), List.mem_of_getElem? (i := 1091) (by decide +kernel)⟩
def lw_privs_2 : List (MethodName × Nat) := [(⟨"HollowWall$RoundReader", "readStep", "(LHollowWall$Text;)Z"⟩, 3), (⟨"HollowWall$RoundReader", "readRest", "(LHollowWall$Text;I)Z"⟩, 3), (⟨"HollowWall$RoundReader", "readTest", "(LHollowWall$Text;I)Z"⟩, 3), (⟨"HollowWall", "answerOrNothing", "(I)I"⟩, 19), (⟨"HollowWall$Readings", "followFromBehind", "(I)V"⟩, 14), (⟨"HollowWall$Readings", "followBehind", "(III)V"⟩, 14), (⟨"HollowWall$Readings", "offer", "(II)V"⟩, 14), (⟨"HollowWall$Readings", "priceOf", "(III)I"⟩, 14), (⟨"HollowWall$Readings", "mayStart", "(I)Z"⟩, 14), (⟨"HollowWall$Readings", "waysAt", "(I)I"⟩, 14), (⟨"HollowWall$Readings", "traceFirst", "(I)I"⟩, 14), (⟨"HollowWall$Readings", "traceStone", "(III)I"⟩, 14), (⟨"HollowWall$Readings", "followAhead", "(II)V"⟩, 14), (⟨"HollowWall$Readings", "isLeastAt", "(II)Z"⟩, 14), (⟨"HollowWall", "tellFraction", "(JJ)V"⟩, 19), (⟨"HollowWall$Telling", "gather", "(LHollowWall$Readings;I)V"⟩, 6)]
theorem lw_r2 : ∀ q ∈ lw_privs_2, lw_okq q := List.forall_mem_cons.mpr ⟨lw_p16, List.forall_mem_cons.mpr ⟨lw_p17, List.forall_mem_cons.mpr ⟨lw_p18, List.forall_mem_cons.mpr ⟨lw_p19, List.forall_mem_cons.mpr ⟨lw_p20, List.forall_mem_cons.mpr ⟨lw_p21, List.forall_mem_cons.mpr ⟨lw_p22, List.forall_mem_cons.mpr ⟨lw_p23, List.forall_mem_cons.mpr ⟨lw_p24, List.forall_mem_cons.mpr ⟨lw_p25, List.forall_mem_cons.mpr ⟨lw_p26, List.forall_mem_cons.mpr ⟨lw_p27, List.forall_mem_cons.mpr ⟨lw_p28, List.forall_mem_cons.mpr ⟨lw_p29, List.forall_mem_cons.mpr ⟨lw_p30, List.forall_mem_cons.mpr ⟨lw_p31, fun _ h => absurd h List.not_mem_nil⟩⟩⟩⟩⟩⟩⟩⟩⟩⟩⟩⟩⟩⟩⟩⟩
theorem lw_p32 : lw_okq (⟨"HollowWall$Telling", "chooseStones", "(II)V"⟩, 6) := ⟨⟨by decide +kernel, by decide +kernel⟩, List.mem_of_getElem? (i := 347) (by decide +kernel), List.mem_of_getElem? (i := 1104) (by decide +kernel), List.mem_of_getElem? (i := 1105) (by decide +kernel)⟩
theorem lw_p33 : lw_okq (⟨"HollowWall$Telling", "isAsked", "(II)Z"⟩, 6) := ⟨⟨by decide +kernel, by decide +kernel⟩, List.mem_of_getElem? (i := 347) (by decide +kernel), List.mem_of_getElem? (i := 1108) (by decide +kernel), List.mem_of_getElem? (i := 1109) (by decide +kernel)⟩
theorem lw_p34 : lw_okq (⟨"HollowWall$Telling", "fewestFor", "(I)I"⟩, 6) := ⟨⟨by decide +kernel, by decide +kernel⟩, List.mem_of_getElem? (i := 347) (by decide +kernel), List.mem_of_getElem? (i := 1112) (by decide +kernel), List.mem_of_getElem? (i := 1113) (by decide +kernel)⟩
theorem lw_p35 : lw_okq (⟨"HollowWall$Telling", "neededBy", "(II)I"⟩, 6) := ⟨⟨by decide +kernel, by decide +kernel⟩, List.mem_of_getElem? (i := 347) (by decide +kernel), List.mem_of_getElem? (i := 1116) (by decide +kernel), List.mem_of_getElem? (i := 1117) (by decide +kernel)⟩
theorem lw_p36 : lw_okq (⟨"HollowWall$Telling", "bestFor", "(I)I"⟩, 6) := ⟨⟨by decide +kernel, by decide +kernel⟩, List.mem_of_getElem? (i := 347) (by decide +kernel), List.mem_of_getElem? (i := 1121) (by decide +kernel), List.mem_of_getElem? (i := 1122) (by decide +kernel)⟩
theorem lw_p37 : lw_okq (⟨"HollowWall$Site", "isExplained", "(III)Z"⟩, 5) := ⟨⟨by decide +kernel, by decide +kernel⟩, List.mem_of_getElem? (i := 77) (by decide +kernel), List.mem_of_getElem? (i := 1133) (by decide +kernel), List.mem_of_getElem? (i := 1134) (by decide +kernel)⟩
theorem lw_p38 : lw_okq (⟨"HollowWall", "fitsFrom", "(LHollowWall$Tray;II)Z"⟩, 19) := ⟨⟨by decide +kernel, by decide +kernel⟩, List.mem_of_getElem? (i := 21) (by decide +kernel), List.mem_of_getElem? (i := 1175) (by decide +kernel), List.mem_of_getElem? (i := 1176) (by decide +kernel)⟩
theorem lw_p39 : lw_okq (⟨"HollowWall", "canWalk", "()Z"⟩, 19) := ⟨⟨by decide +kernel, by decide +kernel⟩, List.mem_of_getElem? (i := 21) (by decide +kernel), List.mem_of_getElem? (i := 1224) (by decide +kernel), List.mem_of_getElem? (i := 1225) (by decide +kernel)⟩
theorem lw_p40 : lw_okq (⟨"HollowWall$Walker", "begin", "(LHollowWall$Site;II)V"⟩, 12) := ⟨⟨by decide +kernel, by decide +kernel⟩, List.mem_of_getElem? (i := 374) (by decide +kernel), List.mem_of_getElem? (i := 1232) (by decide +kernel), List.mem_of_getElem? (i := 1233) (by decide +kernel)⟩
theorem lw_p41 : lw_okq (⟨"HollowWall$Walker", "behindEnd", "(LHollowWall$Round;I)I"⟩, 12) := ⟨⟨by decide +kernel, by decide +kernel⟩, List.mem_of_getElem? (i := 374) (by decide +kernel), List.mem_of_getElem? (i := 1238) (by decide +kernel), List.mem_of_getElem? (i := 1239) (by decide +kernel)⟩
theorem lw_p42 : lw_okq (⟨"HollowWall$Walker", "behindStep", "(LHollowWall$Site;I)I"⟩, 12) := ⟨⟨by decide +kernel, by decide +kernel⟩, List.mem_of_getElem? (i := 374) (by decide +kernel), List.mem_of_getElem? (i := 1242) (by decide +kernel), List.mem_of_getElem? (i := 1243) (by decide +kernel)⟩
theorem lw_p43 : lw_okq (⟨"HollowWall$Walker", "listen", "(Z)V"⟩, 12) := ⟨⟨by decide +kernel, by decide +kernel⟩, List.mem_of_getElem? (i := 374) (by decide +kernel), List.mem_of_getElem? (i := 1249) (by decide +kernel), List.mem_of_getElem? (i := 1250) (by decide +kernel)⟩
theorem lw_p44 : lw_okq (⟨"HollowWall$Walker", "writeDown", "()V"⟩, 12) := ⟨⟨by decide +kernel, by decide +kernel⟩, List.mem_of_getElem? (i := 374) (by decide +kernel), List.mem_of_getElem? (i := 1254) (by decide +kernel), List.mem_of_getElem? (i := 1255) (by decide +kernel)⟩
theorem lw_p45 : lw_okq (⟨"HollowWall$Walker", "holds", "(LHollowWall$Wall;II)Z"⟩, 12) := ⟨⟨by decide +kernel, by decide +kernel⟩, List.mem_of_getElem? (i := 374) (by decide +kernel), List.mem_of_getElem? (i := 1262) (by decide +kernel), List.mem_of_getElem? (i := 1263) (by decide +kernel)⟩
theorem lw_p46 : lw_okq (⟨"HollowWall", "isAllTrue", "([I)Z"⟩, 19) := ⟨⟨by decide +kernel, by decide +kernel⟩, List.mem_of_getElem? (i := 21) (by decide +kernel), List.mem_of_getElem? (i := 1278) (by decide +kernel), List.mem_of_getElem? (i := 1279) (by decide +kernel)⟩
theorem lw_p47 : lw_okq (⟨"HollowWallModel", "no", "(I)Z"⟩, 53) := ⟨⟨by decide +kernel, by decide +kernel⟩, List.mem_of_getElem? (i := 1296) (by decide +kernel), List.mem_of_getElem? (i := 1479) (by decide +kernel), List.mem_of_getElem? (i := 1480) (by decide +kernel)⟩
def lw_privs_3 : List (MethodName × Nat) := [(⟨"HollowWall$Telling", "chooseStones", "(II)V"⟩, 6), (⟨"HollowWall$Telling", "isAsked", "(II)Z"⟩, 6), (⟨"HollowWall$Telling", "fewestFor", "(I)I"⟩, 6), (⟨"HollowWall$Telling", "neededBy", "(II)I"⟩, 6), (⟨"HollowWall$Telling", "bestFor", "(I)I"⟩, 6), (⟨"HollowWall$Site", "isExplained", "(III)Z"⟩, 5), (⟨"HollowWall", "fitsFrom", "(LHollowWall$Tray;II)Z"⟩, 19), (⟨"HollowWall", "canWalk", "()Z"⟩, 19), (⟨"HollowWall$Walker", "begin", "(LHollowWall$Site;II)V"⟩, 12), (⟨"HollowWall$Walker", "behindEnd", "(LHollowWall$Round;I)I"⟩, 12), (⟨"HollowWall$Walker", "behindStep", "(LHollowWall$Site;I)I"⟩, 12), (⟨"HollowWall$Walker", "listen", "(Z)V"⟩, 12), (⟨"HollowWall$Walker", "writeDown", "()V"⟩, 12), (⟨"HollowWall$Walker", "holds", "(LHollowWall$Wall;II)Z"⟩, 12), (⟨"HollowWall", "isAllTrue", "([I)Z"⟩, 19), (⟨"HollowWallModel", "no", "(I)Z"⟩, 53)]
theorem lw_r3 : ∀ q ∈ lw_privs_3, lw_okq q := List.forall_mem_cons.mpr ⟨lw_p32, List.forall_mem_cons.mpr ⟨lw_p33, List.forall_mem_cons.mpr ⟨lw_p34, List.forall_mem_cons.mpr ⟨lw_p35, List.forall_mem_cons.mpr ⟨lw_p36, List.forall_mem_cons.mpr ⟨lw_p37, List.forall_mem_cons.mpr ⟨lw_p38, List.forall_mem_cons.mpr ⟨lw_p39, List.forall_mem_cons.mpr ⟨lw_p40, List.forall_mem_cons.mpr ⟨lw_p41, List.forall_mem_cons.mpr ⟨lw_p42, List.forall_mem_cons.mpr ⟨lw_p43, List.forall_mem_cons.mpr ⟨lw_p44, List.forall_mem_cons.mpr ⟨lw_p45, List.forall_mem_cons.mpr ⟨lw_p46, List.forall_mem_cons.mpr ⟨lw_p47, fun _ h => absurd h List.not_mem_nil⟩⟩⟩⟩⟩⟩⟩⟩⟩⟩⟩⟩⟩⟩⟩⟩
theorem lw_p48 : lw_okq (⟨"HollowWallModel", "placed", "(II)I"⟩, 53) := ⟨⟨by decide +kernel, by decide +kernel⟩, List.mem_of_getElem? (i := 1296) (by decide +kernel), List.mem_of_getElem? (i := 1487) (by decide +kernel), List.mem_of_getElem? (i := 1488) (by decide +kernel)⟩
theorem lw_p49 : lw_okq (⟨"HollowWallModel", "trayed", "(I)I"⟩, 53) := ⟨⟨by decide +kernel, by decide +kernel⟩, List.mem_of_getElem? (i := 1296) (by decide +kernel), List.mem_of_getElem? (i := 1491) (by decide +kernel), List.mem_of_getElem? (i := 1492) (by decide +kernel)⟩
theorem lw_p50 : lw_okq (⟨"HollowWallModel", "lay", "(I)V"⟩, 53) := ⟨⟨by decide +kernel, by decide +kernel⟩, List.mem_of_getElem? (i := 1296) (by decide +kernel), List.mem_of_getElem? (i := 1511) (by decide +kernel), List.mem_of_getElem? (i := 1512) (by decide +kernel)⟩
theorem lw_p51 : lw_okq (⟨"HollowWallModel", "opens", "(II)Z"⟩, 53) := ⟨⟨by decide +kernel, by decide +kernel⟩, List.mem_of_getElem? (i := 1296) (by decide +kernel), List.mem_of_getElem? (i := 1523) (by decide +kernel), List.mem_of_getElem? (i := 1524) (by decide +kernel)⟩
theorem lw_p52 : lw_okq (⟨"HollowWallModel", "next", "()V"⟩, 53) := ⟨⟨by decide +kernel, by decide +kernel⟩, List.mem_of_getElem? (i := 1296) (by decide +kernel), List.mem_of_getElem? (i := 1527) (by decide +kernel), List.mem_of_getElem? (i := 1528) (by decide +kernel)⟩
theorem lw_p53 : lw_okq (⟨"HollowWallModel", "look2", "(I)I"⟩, 53) := ⟨⟨by decide +kernel, by decide +kernel⟩, List.mem_of_getElem? (i := 1296) (by decide +kernel), List.mem_of_getElem? (i := 1531) (by decide +kernel), List.mem_of_getElem? (i := 1532) (by decide +kernel)⟩
theorem lw_p54 : lw_okq (⟨"HollowWallModel", "isSignByte", "(I)Z"⟩, 53) := ⟨⟨by decide +kernel, by decide +kernel⟩, List.mem_of_getElem? (i := 1296) (by decide +kernel), List.mem_of_getElem? (i := 1543) (by decide +kernel), List.mem_of_getElem? (i := 1544) (by decide +kernel)⟩
theorem lw_p55 : lw_okq (⟨"HollowWallModel", "isOath", "()Z"⟩, 53) := ⟨⟨by decide +kernel, by decide +kernel⟩, List.mem_of_getElem? (i := 1296) (by decide +kernel), List.mem_of_getElem? (i := 1547) (by decide +kernel), List.mem_of_getElem? (i := 1548) (by decide +kernel)⟩
theorem lw_p56 : lw_okq (⟨"HollowWallModel", "isWord", "(J)Z"⟩, 53) := ⟨⟨by decide +kernel, by decide +kernel⟩, List.mem_of_getElem? (i := 1296) (by decide +kernel), List.mem_of_getElem? (i := 1554) (by decide +kernel), List.mem_of_getElem? (i := 1555) (by decide +kernel)⟩
theorem lw_p57 : lw_okq (⟨"HollowWallModel", "must", "(Z)V"⟩, 53) := ⟨⟨by decide +kernel, by decide +kernel⟩, List.mem_of_getElem? (i := 1296) (by decide +kernel), List.mem_of_getElem? (i := 1558) (by decide +kernel), List.mem_of_getElem? (i := 1559) (by decide +kernel)⟩
theorem lw_p58 : lw_okq (⟨"HollowWallModel", "wrongToken", "()V"⟩, 53) := ⟨⟨by decide +kernel, by decide +kernel⟩, List.mem_of_getElem? (i := 1296) (by decide +kernel), List.mem_of_getElem? (i := 1562) (by decide +kernel), List.mem_of_getElem? (i := 1563) (by decide +kernel)⟩
theorem lw_p59 : lw_okq (⟨"HollowWallModel", "fail", "(II)V"⟩, 53) := ⟨⟨by decide +kernel, by decide +kernel⟩, List.mem_of_getElem? (i := 1296) (by decide +kernel), List.mem_of_getElem? (i := 1566) (by decide +kernel), List.mem_of_getElem? (i := 1567) (by decide +kernel)⟩
theorem lw_p60 : lw_okq (⟨"HollowWallModel", "count", "(II)I"⟩, 53) := ⟨⟨by decide +kernel, by decide +kernel⟩, List.mem_of_getElem? (i := 1296) (by decide +kernel), List.mem_of_getElem? (i := 1570) (by decide +kernel), List.mem_of_getElem? (i := 1571) (by decide +kernel)⟩
theorem lw_p61 : lw_okq (⟨"HollowWallModel", "isFrom", "()Z"⟩, 53) := ⟨⟨by decide +kernel, by decide +kernel⟩, List.mem_of_getElem? (i := 1296) (by decide +kernel), List.mem_of_getElem? (i := 1577) (by decide +kernel), List.mem_of_getElem? (i := 1578) (by decide +kernel)⟩
theorem lw_p62 : lw_okq (⟨"HollowWallModel", "isSign", "(I)Z"⟩, 53) := ⟨⟨by decide +kernel, by decide +kernel⟩, List.mem_of_getElem? (i := 1296) (by decide +kernel), List.mem_of_getElem? (i := 1581) (by decide +kernel), List.mem_of_getElem? (i := 1582) (by decide +kernel)⟩
theorem lw_p63 : lw_okq (⟨"HollowWallModel", "isCourse", "()Z"⟩, 53) := ⟨⟨by decide +kernel, by decide +kernel⟩, List.mem_of_getElem? (i := 1296) (by decide +kernel), List.mem_of_getElem? (i := 1585) (by decide +kernel), List.mem_of_getElem? (i := 1586) (by decide +kernel)⟩
def lw_privs_4 : List (MethodName × Nat) := [(⟨"HollowWallModel", "placed", "(II)I"⟩, 53), (⟨"HollowWallModel", "trayed", "(I)I"⟩, 53), (⟨"HollowWallModel", "lay", "(I)V"⟩, 53), (⟨"HollowWallModel", "opens", "(II)Z"⟩, 53), (⟨"HollowWallModel", "next", "()V"⟩, 53), (⟨"HollowWallModel", "look2", "(I)I"⟩, 53), (⟨"HollowWallModel", "isSignByte", "(I)Z"⟩, 53), (⟨"HollowWallModel", "isOath", "()Z"⟩, 53), (⟨"HollowWallModel", "isWord", "(J)Z"⟩, 53), (⟨"HollowWallModel", "must", "(Z)V"⟩, 53), (⟨"HollowWallModel", "wrongToken", "()V"⟩, 53), (⟨"HollowWallModel", "fail", "(II)V"⟩, 53), (⟨"HollowWallModel", "count", "(II)I"⟩, 53), (⟨"HollowWallModel", "isFrom", "()Z"⟩, 53), (⟨"HollowWallModel", "isSign", "(I)Z"⟩, 53), (⟨"HollowWallModel", "isCourse", "()Z"⟩, 53)]
theorem lw_r4 : ∀ q ∈ lw_privs_4, lw_okq q := List.forall_mem_cons.mpr ⟨lw_p48, List.forall_mem_cons.mpr ⟨lw_p49, List.forall_mem_cons.mpr ⟨lw_p50, List.forall_mem_cons.mpr ⟨lw_p51, List.forall_mem_cons.mpr ⟨lw_p52, List.forall_mem_cons.mpr ⟨lw_p53, List.forall_mem_cons.mpr ⟨lw_p54, List.forall_mem_cons.mpr ⟨lw_p55, List.forall_mem_cons.mpr ⟨lw_p56, List.forall_mem_cons.mpr ⟨lw_p57, List.forall_mem_cons.mpr ⟨lw_p58, List.forall_mem_cons.mpr ⟨lw_p59, List.forall_mem_cons.mpr ⟨lw_p60, List.forall_mem_cons.mpr ⟨lw_p61, List.forall_mem_cons.mpr ⟨lw_p62, List.forall_mem_cons.mpr ⟨lw_p63, fun _ h => absurd h List.not_mem_nil⟩⟩⟩⟩⟩⟩⟩⟩⟩⟩⟩⟩⟩⟩⟩⟩
theorem lw_p64 : lw_okq (⟨"HollowWallModel", "readCourse", "()V"⟩, 53) := ⟨⟨by decide +kernel, by decide +kernel⟩, List.mem_of_getElem? (i := 1296) (by decide +kernel), List.mem_of_getElem? (i := 1589) (by decide +kernel), List.mem_of_getElem? (i := 1590) (by decide +kernel)⟩
theorem lw_p65 : lw_okq (⟨"HollowWallModel", "isMason", "()Z"⟩, 53) := ⟨⟨by decide +kernel, by decide +kernel⟩, List.mem_of_getElem? (i := 1296) (by decide +kernel), List.mem_of_getElem? (i := 1593) (by decide +kernel), List.mem_of_getElem? (i := 1594) (by decide +kernel)⟩
theorem lw_p66 : lw_okq (⟨"HollowWallModel", "readMason", "()V"⟩, 53) := ⟨⟨by decide +kernel, by decide +kernel⟩, List.mem_of_getElem? (i := 1296) (by decide +kernel), List.mem_of_getElem? (i := 1597) (by decide +kernel), List.mem_of_getElem? (i := 1598) (by decide +kernel)⟩
theorem lw_p67 : lw_okq (⟨"HollowWallModel", "isKept", "()Z"⟩, 53) := ⟨⟨by decide +kernel, by decide +kernel⟩, List.mem_of_getElem? (i := 1296) (by decide +kernel), List.mem_of_getElem? (i := 1601) (by decide +kernel), List.mem_of_getElem? (i := 1602) (by decide +kernel)⟩
theorem lw_p68 : lw_okq (⟨"HollowWallModel", "isLays", "()Z"⟩, 53) := ⟨⟨by decide +kernel, by decide +kernel⟩, List.mem_of_getElem? (i := 1296) (by decide +kernel), List.mem_of_getElem? (i := 1605) (by decide +kernel), List.mem_of_getElem? (i := 1606) (by decide +kernel)⟩
theorem lw_p69 : lw_okq (⟨"HollowWallModel", "isCosts", "()Z"⟩, 53) := ⟨⟨by decide +kernel, by decide +kernel⟩, List.mem_of_getElem? (i := 1296) (by decide +kernel), List.mem_of_getElem? (i := 1609) (by decide +kernel), List.mem_of_getElem? (i := 1610) (by decide +kernel)⟩
theorem lw_p70 : lw_okq (⟨"HollowWallModel", "isSlip", "()Z"⟩, 53) := ⟨⟨by decide +kernel, by decide +kernel⟩, List.mem_of_getElem? (i := 1296) (by decide +kernel), List.mem_of_getElem? (i := 1613) (by decide +kernel), List.mem_of_getElem? (i := 1614) (by decide +kernel)⟩
theorem lw_p71 : lw_okq (⟨"HollowWallModel", "isAt", "()Z"⟩, 53) := ⟨⟨by decide +kernel, by decide +kernel⟩, List.mem_of_getElem? (i := 1296) (by decide +kernel), List.mem_of_getElem? (i := 1617) (by decide +kernel), List.mem_of_getElem? (i := 1618) (by decide +kernel)⟩
theorem lw_p72 : lw_okq (⟨"HollowWallModel", "isBy", "()Z"⟩, 53) := ⟨⟨by decide +kernel, by decide +kernel⟩, List.mem_of_getElem? (i := 1296) (by decide +kernel), List.mem_of_getElem? (i := 1621) (by decide +kernel), List.mem_of_getElem? (i := 1622) (by decide +kernel)⟩
theorem lw_p73 : lw_okq (⟨"HollowWallModel", "isFind", "()Z"⟩, 53) := ⟨⟨by decide +kernel, by decide +kernel⟩, List.mem_of_getElem? (i := 1296) (by decide +kernel), List.mem_of_getElem? (i := 1625) (by decide +kernel), List.mem_of_getElem? (i := 1626) (by decide +kernel)⟩
theorem lw_p74 : lw_okq (⟨"HollowWallModel", "isYear", "()Z"⟩, 53) := ⟨⟨by decide +kernel, by decide +kernel⟩, List.mem_of_getElem? (i := 1296) (by decide +kernel), List.mem_of_getElem? (i := 1629) (by decide +kernel), List.mem_of_getElem? (i := 1630) (by decide +kernel)⟩
theorem lw_p75 : lw_okq (⟨"HollowWallModel", "stepWord", "()I"⟩, 53) := ⟨⟨by decide +kernel, by decide +kernel⟩, List.mem_of_getElem? (i := 1296) (by decide +kernel), List.mem_of_getElem? (i := 1633) (by decide +kernel), List.mem_of_getElem? (i := 1634) (by decide +kernel)⟩
theorem lw_p76 : lw_okq (⟨"HollowWallModel", "testWord", "()I"⟩, 53) := ⟨⟨by decide +kernel, by decide +kernel⟩, List.mem_of_getElem? (i := 1296) (by decide +kernel), List.mem_of_getElem? (i := 1637) (by decide +kernel), List.mem_of_getElem? (i := 1638) (by decide +kernel)⟩
theorem lw_p77 : lw_okq (⟨"HollowWallModel", "isEnd", "()Z"⟩, 53) := ⟨⟨by decide +kernel, by decide +kernel⟩, List.mem_of_getElem? (i := 1296) (by decide +kernel), List.mem_of_getElem? (i := 1641) (by decide +kernel), List.mem_of_getElem? (i := 1642) (by decide +kernel)⟩
theorem lw_p78 : lw_okq (⟨"HollowWallModel", "readSlip", "()V"⟩, 53) := ⟨⟨by decide +kernel, by decide +kernel⟩, List.mem_of_getElem? (i := 1296) (by decide +kernel), List.mem_of_getElem? (i := 1645) (by decide +kernel), List.mem_of_getElem? (i := 1646) (by decide +kernel)⟩
theorem lw_p79 : lw_okq (⟨"HollowWallModel", "stonesOf", "(I)I"⟩, 53) := ⟨⟨by decide +kernel, by decide +kernel⟩, List.mem_of_getElem? (i := 1296) (by decide +kernel), List.mem_of_getElem? (i := 1649) (by decide +kernel), List.mem_of_getElem? (i := 1650) (by decide +kernel)⟩
def lw_privs_5 : List (MethodName × Nat) := [(⟨"HollowWallModel", "readCourse", "()V"⟩, 53), (⟨"HollowWallModel", "isMason", "()Z"⟩, 53), (⟨"HollowWallModel", "readMason", "()V"⟩, 53), (⟨"HollowWallModel", "isKept", "()Z"⟩, 53), (⟨"HollowWallModel", "isLays", "()Z"⟩, 53), (⟨"HollowWallModel", "isCosts", "()Z"⟩, 53), (⟨"HollowWallModel", "isSlip", "()Z"⟩, 53), (⟨"HollowWallModel", "isAt", "()Z"⟩, 53), (⟨"HollowWallModel", "isBy", "()Z"⟩, 53), (⟨"HollowWallModel", "isFind", "()Z"⟩, 53), (⟨"HollowWallModel", "isYear", "()Z"⟩, 53), (⟨"HollowWallModel", "stepWord", "()I"⟩, 53), (⟨"HollowWallModel", "testWord", "()I"⟩, 53), (⟨"HollowWallModel", "isEnd", "()Z"⟩, 53), (⟨"HollowWallModel", "readSlip", "()V"⟩, 53), (⟨"HollowWallModel", "stonesOf", "(I)I"⟩, 53)]
theorem lw_r5 : ∀ q ∈ lw_privs_5, lw_okq q := List.forall_mem_cons.mpr ⟨lw_p64, List.forall_mem_cons.mpr ⟨lw_p65, List.forall_mem_cons.mpr ⟨lw_p66, List.forall_mem_cons.mpr ⟨lw_p67, List.forall_mem_cons.mpr ⟨lw_p68, List.forall_mem_cons.mpr ⟨lw_p69, List.forall_mem_cons.mpr ⟨lw_p70, List.forall_mem_cons.mpr ⟨lw_p71, List.forall_mem_cons.mpr ⟨lw_p72, List.forall_mem_cons.mpr ⟨lw_p73, List.forall_mem_cons.mpr ⟨lw_p74, List.forall_mem_cons.mpr ⟨lw_p75, List.forall_mem_cons.mpr ⟨lw_p76, List.forall_mem_cons.mpr ⟨lw_p77, List.forall_mem_cons.mpr ⟨lw_p78, List.forall_mem_cons.mpr ⟨lw_p79, fun _ h => absurd h List.not_mem_nil⟩⟩⟩⟩⟩⟩⟩⟩⟩⟩⟩⟩⟩⟩⟩⟩
theorem lw_p80 : lw_okq (⟨"HollowWallModel", "readFind", "()V"⟩, 53) := ⟨⟨by decide +kernel, by decide +kernel⟩, List.mem_of_getElem? (i := 1296) (by decide +kernel), List.mem_of_getElem? (i := 1653) (by decide +kernel), List.mem_of_getElem? (i := 1654) (by decide +kernel)⟩
theorem lw_p81 : lw_okq (⟨"HollowWallModel", "isWell", "()Z"⟩, 53) := ⟨⟨by decide +kernel, by decide +kernel⟩, List.mem_of_getElem? (i := 1296) (by decide +kernel), List.mem_of_getElem? (i := 1657) (by decide +kernel), List.mem_of_getElem? (i := 1658) (by decide +kernel)⟩
theorem lw_p82 : lw_okq (⟨"HollowWallModel", "readStep", "(I)V"⟩, 53) := ⟨⟨by decide +kernel, by decide +kernel⟩, List.mem_of_getElem? (i := 1296) (by decide +kernel), List.mem_of_getElem? (i := 1665) (by decide +kernel), List.mem_of_getElem? (i := 1666) (by decide +kernel)⟩
theorem lw_p83 : lw_okq (⟨"HollowWallModel", "readTest", "(I)V"⟩, 53) := ⟨⟨by decide +kernel, by decide +kernel⟩, List.mem_of_getElem? (i := 1296) (by decide +kernel), List.mem_of_getElem? (i := 1669) (by decide +kernel), List.mem_of_getElem? (i := 1670) (by decide +kernel)⟩
theorem lw_p84 : lw_okq (⟨"HollowWallModel", "stones", "()I"⟩, 53) := ⟨⟨by decide +kernel, by decide +kernel⟩, List.mem_of_getElem? (i := 1296) (by decide +kernel), List.mem_of_getElem? (i := 1677) (by decide +kernel), List.mem_of_getElem? (i := 1678) (by decide +kernel)⟩
theorem lw_p85 : lw_okq (⟨"HollowWallModel", "noted", "()I"⟩, 53) := ⟨⟨by decide +kernel, by decide +kernel⟩, List.mem_of_getElem? (i := 1296) (by decide +kernel), List.mem_of_getElem? (i := 1681) (by decide +kernel), List.mem_of_getElem? (i := 1682) (by decide +kernel)⟩
theorem lw_p86 : lw_okq (⟨"HollowWallModel", "refuse", "(I)I"⟩, 53) := ⟨⟨by decide +kernel, by decide +kernel⟩, List.mem_of_getElem? (i := 1296) (by decide +kernel), List.mem_of_getElem? (i := 1685) (by decide +kernel), List.mem_of_getElem? (i := 1686) (by decide +kernel)⟩
theorem lw_p87 : lw_okq (⟨"HollowWallModel", "isStone", "(I)Z"⟩, 53) := ⟨⟨by decide +kernel, by decide +kernel⟩, List.mem_of_getElem? (i := 1296) (by decide +kernel), List.mem_of_getElem? (i := 1693) (by decide +kernel), List.mem_of_getElem? (i := 1694) (by decide +kernel)⟩
theorem lw_p88 : lw_okq (⟨"HollowWallModel", "courseOf", "(I)I"⟩, 53) := ⟨⟨by decide +kernel, by decide +kernel⟩, List.mem_of_getElem? (i := 1296) (by decide +kernel), List.mem_of_getElem? (i := 1697) (by decide +kernel), List.mem_of_getElem? (i := 1698) (by decide +kernel)⟩
theorem lw_p89 : lw_okq (⟨"HollowWallModel", "inCourse", "(I)I"⟩, 53) := ⟨⟨by decide +kernel, by decide +kernel⟩, List.mem_of_getElem? (i := 1296) (by decide +kernel), List.mem_of_getElem? (i := 1701) (by decide +kernel), List.mem_of_getElem? (i := 1702) (by decide +kernel)⟩
theorem lw_p90 : lw_okq (⟨"HollowWallModel", "masonOf", "(I)I"⟩, 53) := ⟨⟨by decide +kernel, by decide +kernel⟩, List.mem_of_getElem? (i := 1296) (by decide +kernel), List.mem_of_getElem? (i := 1705) (by decide +kernel), List.mem_of_getElem? (i := 1706) (by decide +kernel)⟩
theorem lw_p91 : lw_okq (⟨"HollowWallModel", "beginOf", "(I)I"⟩, 53) := ⟨⟨by decide +kernel, by decide +kernel⟩, List.mem_of_getElem? (i := 1296) (by decide +kernel), List.mem_of_getElem? (i := 1709) (by decide +kernel), List.mem_of_getElem? (i := 1710) (by decide +kernel)⟩
theorem lw_p92 : lw_okq (⟨"HollowWallModel", "trueCount", "(I)I"⟩, 53) := ⟨⟨by decide +kernel, by decide +kernel⟩, List.mem_of_getElem? (i := 1296) (by decide +kernel), List.mem_of_getElem? (i := 1713) (by decide +kernel), List.mem_of_getElem? (i := 1714) (by decide +kernel)⟩
theorem lw_p93 : lw_okq (⟨"HollowWallModel", "countAll", "(Z)V"⟩, 53) := ⟨⟨by decide +kernel, by decide +kernel⟩, List.mem_of_getElem? (i := 1296) (by decide +kernel), List.mem_of_getElem? (i := 1717) (by decide +kernel), List.mem_of_getElem? (i := 1718) (by decide +kernel)⟩
theorem lw_p94 : lw_okq (⟨"HollowWallModel", "after", "(II)I"⟩, 53) := ⟨⟨by decide +kernel, by decide +kernel⟩, List.mem_of_getElem? (i := 1296) (by decide +kernel), List.mem_of_getElem? (i := 1721) (by decide +kernel), List.mem_of_getElem? (i := 1722) (by decide +kernel)⟩
theorem lw_p95 : lw_okq (⟨"HollowWallModel", "swornCount", "(I)I"⟩, 53) := ⟨⟨by decide +kernel, by decide +kernel⟩, List.mem_of_getElem? (i := 1296) (by decide +kernel), List.mem_of_getElem? (i := 1725) (by decide +kernel), List.mem_of_getElem? (i := 1726) (by decide +kernel)⟩
def lw_privs_6 : List (MethodName × Nat) := [(⟨"HollowWallModel", "readFind", "()V"⟩, 53), (⟨"HollowWallModel", "isWell", "()Z"⟩, 53), (⟨"HollowWallModel", "readStep", "(I)V"⟩, 53), (⟨"HollowWallModel", "readTest", "(I)V"⟩, 53), (⟨"HollowWallModel", "stones", "()I"⟩, 53), (⟨"HollowWallModel", "noted", "()I"⟩, 53), (⟨"HollowWallModel", "refuse", "(I)I"⟩, 53), (⟨"HollowWallModel", "isStone", "(I)Z"⟩, 53), (⟨"HollowWallModel", "courseOf", "(I)I"⟩, 53), (⟨"HollowWallModel", "inCourse", "(I)I"⟩, 53), (⟨"HollowWallModel", "masonOf", "(I)I"⟩, 53), (⟨"HollowWallModel", "beginOf", "(I)I"⟩, 53), (⟨"HollowWallModel", "trueCount", "(I)I"⟩, 53), (⟨"HollowWallModel", "countAll", "(Z)V"⟩, 53), (⟨"HollowWallModel", "after", "(II)I"⟩, 53), (⟨"HollowWallModel", "swornCount", "(I)I"⟩, 53)]
theorem lw_r6 : ∀ q ∈ lw_privs_6, lw_okq q := List.forall_mem_cons.mpr ⟨lw_p80, List.forall_mem_cons.mpr ⟨lw_p81, List.forall_mem_cons.mpr ⟨lw_p82, List.forall_mem_cons.mpr ⟨lw_p83, List.forall_mem_cons.mpr ⟨lw_p84, List.forall_mem_cons.mpr ⟨lw_p85, List.forall_mem_cons.mpr ⟨lw_p86, List.forall_mem_cons.mpr ⟨lw_p87, List.forall_mem_cons.mpr ⟨lw_p88, List.forall_mem_cons.mpr ⟨lw_p89, List.forall_mem_cons.mpr ⟨lw_p90, List.forall_mem_cons.mpr ⟨lw_p91, List.forall_mem_cons.mpr ⟨lw_p92, List.forall_mem_cons.mpr ⟨lw_p93, List.forall_mem_cons.mpr ⟨lw_p94, List.forall_mem_cons.mpr ⟨lw_p95, fun _ h => absurd h List.not_mem_nil⟩⟩⟩⟩⟩⟩⟩⟩⟩⟩⟩⟩⟩⟩⟩⟩
theorem lw_p96 : lw_okq (⟨"HollowWallModel", "isHollow", "(I)Z"⟩, 53) := ⟨⟨by decide +kernel, by decide +kernel⟩, List.mem_of_getElem? (i := 1296) (by decide +kernel), List.mem_of_getElem? (i := 1729) (by decide +kernel), List.mem_of_getElem? (i := 1730) (by decide +kernel)⟩
theorem lw_p97 : lw_okq (⟨"HollowWallModel", "findAt", "(I)I"⟩, 53) := ⟨⟨by decide +kernel, by decide +kernel⟩, List.mem_of_getElem? (i := 1296) (by decide +kernel), List.mem_of_getElem? (i := 1733) (by decide +kernel), List.mem_of_getElem? (i := 1734) (by decide +kernel)⟩
theorem lw_p98 : lw_okq (⟨"HollowWallModel", "laidBy", "(I)I"⟩, 53) := ⟨⟨by decide +kernel, by decide +kernel⟩, List.mem_of_getElem? (i := 1296) (by decide +kernel), List.mem_of_getElem? (i := 1741) (by decide +kernel), List.mem_of_getElem? (i := 1742) (by decide +kernel)⟩
theorem lw_p99 : lw_okq (⟨"HollowWallModel", "costAt", "(I)I"⟩, 53) := ⟨⟨by decide +kernel, by decide +kernel⟩, List.mem_of_getElem? (i := 1296) (by decide +kernel), List.mem_of_getElem? (i := 1770) (by decide +kernel), List.mem_of_getElem? (i := 1771) (by decide +kernel)⟩
theorem lw_p100 : lw_okq (⟨"HollowWallModel", "explains", "(Z)Z"⟩, 53) := ⟨⟨by decide +kernel, by decide +kernel⟩, List.mem_of_getElem? (i := 1296) (by decide +kernel), List.mem_of_getElem? (i := 1802) (by decide +kernel), List.mem_of_getElem? (i := 1803) (by decide +kernel)⟩
theorem lw_p101 : lw_okq (⟨"HollowWallModel", "suits", "(II)Z"⟩, 53) := ⟨⟨by decide +kernel, by decide +kernel⟩, List.mem_of_getElem? (i := 1296) (by decide +kernel), List.mem_of_getElem? (i := 1806) (by decide +kernel), List.mem_of_getElem? (i := 1807) (by decide +kernel)⟩
theorem lw_p102 : lw_okq (⟨"HollowWallModel", "step", "(III)I"⟩, 53) := ⟨⟨by decide +kernel, by decide +kernel⟩, List.mem_of_getElem? (i := 1296) (by decide +kernel), List.mem_of_getElem? (i := 1814) (by decide +kernel), List.mem_of_getElem? (i := 1815) (by decide +kernel)⟩
theorem lw_p103 : lw_okq (⟨"HollowWallModel", "allWays", "(Z)J"⟩, 53) := ⟨⟨by decide +kernel, by decide +kernel⟩, List.mem_of_getElem? (i := 1296) (by decide +kernel), List.mem_of_getElem? (i := 1827) (by decide +kernel), List.mem_of_getElem? (i := 1828) (by decide +kernel)⟩
theorem lw_p104 : lw_okq (⟨"HollowWallModel", "isOn", "(II)Z"⟩, 53) := ⟨⟨by decide +kernel, by decide +kernel⟩, List.mem_of_getElem? (i := 1296) (by decide +kernel), List.mem_of_getElem? (i := 1835) (by decide +kernel), List.mem_of_getElem? (i := 1836) (by decide +kernel)⟩
theorem lw_p105 : lw_okq (⟨"HollowWallModel", "waysWithout", "(I)J"⟩, 53) := ⟨⟨by decide +kernel, by decide +kernel⟩, List.mem_of_getElem? (i := 1296) (by decide +kernel), List.mem_of_getElem? (i := 1855) (by decide +kernel), List.mem_of_getElem? (i := 1856) (by decide +kernel)⟩
theorem lw_p106 : lw_okq (⟨"HollowWallModel", "fraction", "(JJ)Z"⟩, 53) := ⟨⟨by decide +kernel, by decide +kernel⟩, List.mem_of_getElem? (i := 1296) (by decide +kernel), List.mem_of_getElem? (i := 1859) (by decide +kernel), List.mem_of_getElem? (i := 1860) (by decide +kernel)⟩
theorem lw_p107 : lw_okq (⟨"HollowWallModel", "isOathFor", "(II)Z"⟩, 53) := ⟨⟨by decide +kernel, by decide +kernel⟩, List.mem_of_getElem? (i := 1296) (by decide +kernel), List.mem_of_getElem? (i := 1870) (by decide +kernel), List.mem_of_getElem? (i := 1871) (by decide +kernel)⟩
theorem lw_p108 : lw_okq (⟨"HollowWallModel", "countOn", "()V"⟩, 53) := ⟨⟨by decide +kernel, by decide +kernel⟩, List.mem_of_getElem? (i := 1296) (by decide +kernel), List.mem_of_getElem? (i := 1882) (by decide +kernel), List.mem_of_getElem? (i := 1883) (by decide +kernel)⟩
theorem lw_p109 : lw_okq (⟨"HollowWallModel", "readFrom", "(I)V"⟩, 53) := ⟨⟨by decide +kernel, by decide +kernel⟩, List.mem_of_getElem? (i := 1296) (by decide +kernel), List.mem_of_getElem? (i := 1892) (by decide +kernel), List.mem_of_getElem? (i := 1893) (by decide +kernel)⟩
theorem lw_p110 : lw_okq (⟨"HollowWallModel", "knocksBy", "(II)I"⟩, 53) := ⟨⟨by decide +kernel, by decide +kernel⟩, List.mem_of_getElem? (i := 1296) (by decide +kernel), List.mem_of_getElem? (i := 1896) (by decide +kernel), List.mem_of_getElem? (i := 1897) (by decide +kernel)⟩
theorem lw_p111 : lw_okq (⟨"HollowWallModel", "heardBy", "(II)I"⟩, 53) := ⟨⟨by decide +kernel, by decide +kernel⟩, List.mem_of_getElem? (i := 1296) (by decide +kernel), List.mem_of_getElem? (i := 1900) (by decide +kernel), List.mem_of_getElem? (i := 1901) (by decide +kernel)⟩
def lw_privs_7 : List (MethodName × Nat) := [(⟨"HollowWallModel", "isHollow", "(I)Z"⟩, 53), (⟨"HollowWallModel", "findAt", "(I)I"⟩, 53), (⟨"HollowWallModel", "laidBy", "(I)I"⟩, 53), (⟨"HollowWallModel", "costAt", "(I)I"⟩, 53), (⟨"HollowWallModel", "explains", "(Z)Z"⟩, 53), (⟨"HollowWallModel", "suits", "(II)Z"⟩, 53), (⟨"HollowWallModel", "step", "(III)I"⟩, 53), (⟨"HollowWallModel", "allWays", "(Z)J"⟩, 53), (⟨"HollowWallModel", "isOn", "(II)Z"⟩, 53), (⟨"HollowWallModel", "waysWithout", "(I)J"⟩, 53), (⟨"HollowWallModel", "fraction", "(JJ)Z"⟩, 53), (⟨"HollowWallModel", "isOathFor", "(II)Z"⟩, 53), (⟨"HollowWallModel", "countOn", "()V"⟩, 53), (⟨"HollowWallModel", "readFrom", "(I)V"⟩, 53), (⟨"HollowWallModel", "knocksBy", "(II)I"⟩, 53), (⟨"HollowWallModel", "heardBy", "(II)I"⟩, 53)]
theorem lw_r7 : ∀ q ∈ lw_privs_7, lw_okq q := List.forall_mem_cons.mpr ⟨lw_p96, List.forall_mem_cons.mpr ⟨lw_p97, List.forall_mem_cons.mpr ⟨lw_p98, List.forall_mem_cons.mpr ⟨lw_p99, List.forall_mem_cons.mpr ⟨lw_p100, List.forall_mem_cons.mpr ⟨lw_p101, List.forall_mem_cons.mpr ⟨lw_p102, List.forall_mem_cons.mpr ⟨lw_p103, List.forall_mem_cons.mpr ⟨lw_p104, List.forall_mem_cons.mpr ⟨lw_p105, List.forall_mem_cons.mpr ⟨lw_p106, List.forall_mem_cons.mpr ⟨lw_p107, List.forall_mem_cons.mpr ⟨lw_p108, List.forall_mem_cons.mpr ⟨lw_p109, List.forall_mem_cons.mpr ⟨lw_p110, List.forall_mem_cons.mpr ⟨lw_p111, fun _ h => absurd h List.not_mem_nil⟩⟩⟩⟩⟩⟩⟩⟩⟩⟩⟩⟩⟩⟩⟩⟩
theorem lw_p112 : lw_okq (⟨"HollowWallModel", "isTwice", "(I)Z"⟩, 53) := ⟨⟨by decide +kernel, by decide +kernel⟩, List.mem_of_getElem? (i := 1296) (by decide +kernel), List.mem_of_getElem? (i := 1908) (by decide +kernel), List.mem_of_getElem? (i := 1909) (by decide +kernel)⟩
theorem lw_p113 : lw_okq (⟨"HollowWallModel", "isTray", "(I)Z"⟩, 53) := ⟨⟨by decide +kernel, by decide +kernel⟩, List.mem_of_getElem? (i := 1296) (by decide +kernel), List.mem_of_getElem? (i := 1920) (by decide +kernel), List.mem_of_getElem? (i := 1921) (by decide +kernel)⟩
theorem lw_p114 : lw_okq (⟨"HollowWallModel", "numberOf", "(II)J"⟩, 53) := ⟨⟨by decide +kernel, by decide +kernel⟩, List.mem_of_getElem? (i := 1296) (by decide +kernel), List.mem_of_getElem? (i := 1926) (by decide +kernel), List.mem_of_getElem? (i := 1927) (by decide +kernel)⟩
theorem lw_p115 : lw_okq (⟨"HollowWallModel", "fitsAt", "(III)Z"⟩, 53) := ⟨⟨by decide +kernel, by decide +kernel⟩, List.mem_of_getElem? (i := 1296) (by decide +kernel), List.mem_of_getElem? (i := 1930) (by decide +kernel), List.mem_of_getElem? (i := 1931) (by decide +kernel)⟩
theorem lw_p116 : lw_okq (⟨"HollowWallModel", "yearsFound", "()I"⟩, 53) := ⟨⟨by decide +kernel, by decide +kernel⟩, List.mem_of_getElem? (i := 1296) (by decide +kernel), List.mem_of_getElem? (i := 1949) (by decide +kernel), List.mem_of_getElem? (i := 1950) (by decide +kernel)⟩
theorem lw_p117 : lw_okq (⟨"HollowWallModel", "isNoWalk", "()Z"⟩, 53) := ⟨⟨by decide +kernel, by decide +kernel⟩, List.mem_of_getElem? (i := 1296) (by decide +kernel), List.mem_of_getElem? (i := 1970) (by decide +kernel), List.mem_of_getElem? (i := 1971) (by decide +kernel)⟩
theorem lw_p118 : lw_okq (⟨"HollowWallModel", "walks", "(II)V"⟩, 53) := ⟨⟨by decide +kernel, by decide +kernel⟩, List.mem_of_getElem? (i := 1296) (by decide +kernel), List.mem_of_getElem? (i := 1974) (by decide +kernel), List.mem_of_getElem? (i := 1975) (by decide +kernel)⟩
theorem lw_p119 : lw_okq (⟨"HollowWallModel", "doAll", "(III)V"⟩, 53) := ⟨⟨by decide +kernel, by decide +kernel⟩, List.mem_of_getElem? (i := 1296) (by decide +kernel), List.mem_of_getElem? (i := 1978) (by decide +kernel), List.mem_of_getElem? (i := 1979) (by decide +kernel)⟩
theorem lw_p120 : lw_okq (⟨"HollowWallModel", "doOne", "(II)V"⟩, 53) := ⟨⟨by decide +kernel, by decide +kernel⟩, List.mem_of_getElem? (i := 1296) (by decide +kernel), List.mem_of_getElem? (i := 1982) (by decide +kernel), List.mem_of_getElem? (i := 1983) (by decide +kernel)⟩
theorem lw_p121 : lw_okq (⟨"HollowWallModel", "doPlain", "(II)V"⟩, 53) := ⟨⟨by decide +kernel, by decide +kernel⟩, List.mem_of_getElem? (i := 1296) (by decide +kernel), List.mem_of_getElem? (i := 1986) (by decide +kernel), List.mem_of_getElem? (i := 1987) (by decide +kernel)⟩
theorem lw_p122 : lw_okq (⟨"HollowWallModel", "draw", "()I"⟩, 53) := ⟨⟨by decide +kernel, by decide +kernel⟩, List.mem_of_getElem? (i := 1296) (by decide +kernel), List.mem_of_getElem? (i := 1990) (by decide +kernel), List.mem_of_getElem? (i := 1991) (by decide +kernel)⟩
theorem lw_p123 : lw_okq (⟨"HollowWallModel", "turns", "()V"⟩, 53) := ⟨⟨by decide +kernel, by decide +kernel⟩, List.mem_of_getElem? (i := 1296) (by decide +kernel), List.mem_of_getElem? (i := 1995) (by decide +kernel), List.mem_of_getElem? (i := 1996) (by decide +kernel)⟩
theorem lw_p124 : lw_okq (⟨"HollowWallModel", "isSo", "(I)Z"⟩, 53) := ⟨⟨by decide +kernel, by decide +kernel⟩, List.mem_of_getElem? (i := 1296) (by decide +kernel), List.mem_of_getElem? (i := 1999) (by decide +kernel), List.mem_of_getElem? (i := 2000) (by decide +kernel)⟩
theorem lw_p125 : lw_okq (⟨"HollowWallModel", "isAllTrue", "()Z"⟩, 53) := ⟨⟨by decide +kernel, by decide +kernel⟩, List.mem_of_getElem? (i := 1296) (by decide +kernel), List.mem_of_getElem? (i := 2012) (by decide +kernel), List.mem_of_getElem? (i := 2013) (by decide +kernel)⟩
theorem lw_p126 : lw_okq (⟨"HollowWallModel", "copy", "(II)V"⟩, 53) := ⟨⟨by decide +kernel, by decide +kernel⟩, List.mem_of_getElem? (i := 1296) (by decide +kernel), List.mem_of_getElem? (i := 2020) (by decide +kernel), List.mem_of_getElem? (i := 2021) (by decide +kernel)⟩
def lw_privs_8 : List (MethodName × Nat) := [(⟨"HollowWallModel", "isTwice", "(I)Z"⟩, 53), (⟨"HollowWallModel", "isTray", "(I)Z"⟩, 53), (⟨"HollowWallModel", "numberOf", "(II)J"⟩, 53), (⟨"HollowWallModel", "fitsAt", "(III)Z"⟩, 53), (⟨"HollowWallModel", "yearsFound", "()I"⟩, 53), (⟨"HollowWallModel", "isNoWalk", "()Z"⟩, 53), (⟨"HollowWallModel", "walks", "(II)V"⟩, 53), (⟨"HollowWallModel", "doAll", "(III)V"⟩, 53), (⟨"HollowWallModel", "doOne", "(II)V"⟩, 53), (⟨"HollowWallModel", "doPlain", "(II)V"⟩, 53), (⟨"HollowWallModel", "draw", "()I"⟩, 53), (⟨"HollowWallModel", "turns", "()V"⟩, 53), (⟨"HollowWallModel", "isSo", "(I)Z"⟩, 53), (⟨"HollowWallModel", "isAllTrue", "()Z"⟩, 53), (⟨"HollowWallModel", "copy", "(II)V"⟩, 53)]
theorem lw_r8 : ∀ q ∈ lw_privs_8, lw_okq q := List.forall_mem_cons.mpr ⟨lw_p112, List.forall_mem_cons.mpr ⟨lw_p113, List.forall_mem_cons.mpr ⟨lw_p114, List.forall_mem_cons.mpr ⟨lw_p115, List.forall_mem_cons.mpr ⟨lw_p116, List.forall_mem_cons.mpr ⟨lw_p117, List.forall_mem_cons.mpr ⟨lw_p118, List.forall_mem_cons.mpr ⟨lw_p119, List.forall_mem_cons.mpr ⟨lw_p120, List.forall_mem_cons.mpr ⟨lw_p121, List.forall_mem_cons.mpr ⟨lw_p122, List.forall_mem_cons.mpr ⟨lw_p123, List.forall_mem_cons.mpr ⟨lw_p124, List.forall_mem_cons.mpr ⟨lw_p125, List.forall_mem_cons.mpr ⟨lw_p126, fun _ h => absurd h List.not_mem_nil⟩⟩⟩⟩⟩⟩⟩⟩⟩⟩⟩⟩⟩⟩⟩
def lw_privs : List (MethodName × Nat) := lw_privs_1 ++ (lw_privs_2 ++ (lw_privs_3 ++ (lw_privs_4 ++ (lw_privs_5 ++ (lw_privs_6 ++ (lw_privs_7 ++ (lw_privs_8)))))))
def lw_tbl : List Cond := k2_sels lw_privs ++ tables_1
theorem lw_privs_ok : ∀ q ∈ lw_privs, lw_okq q := by
  show ∀ q ∈ lw_privs_1 ++ (lw_privs_2 ++ (lw_privs_3 ++ (lw_privs_4 ++ (lw_privs_5 ++ (lw_privs_6 ++ (lw_privs_7 ++ (lw_privs_8))))))), lw_okq q
  exact List.forall_mem_append.mpr ⟨lw_r1, List.forall_mem_append.mpr ⟨lw_r2, List.forall_mem_append.mpr ⟨lw_r3, List.forall_mem_append.mpr ⟨lw_r4, List.forall_mem_append.mpr ⟨lw_r5, List.forall_mem_append.mpr ⟨lw_r6, List.forall_mem_append.mpr ⟨lw_r7, lw_r8⟩⟩⟩⟩⟩⟩⟩

/-! ===== BEGIN words of one list among another's, by their places ===== -/
theorem goodIn_r {big : List Cond} (ws : List Cond) (ps : List Nat) (hp : ws = ps.filterMap (fun i => big[i]?)) (h : ws.all goodWord = true) : GoodIn big ws := by
  intro w hw
  have h1 := List.all_eq_true.mp h w hw
  rw [hp] at hw
  obtain ⟨i, -, hi⟩ := List.mem_filterMap.mp hw
  have hm : w ∈ big := by first | exact List.mem_of_getElem? hi | exact List.getElem?_mem hi
  exact ⟨hm, good_of_word h1⟩
theorem goodIn_app {big a b : List Cond} (ha : GoodIn big a) (hb : GoodIn big b) : GoodIn big (a ++ b) := fun w h => (List.mem_append.mp h).elim (ha w) (hb w)
theorem goodIn_ca {big a b : List Cond} {c : Cond} (ha : GoodIn big (c :: a)) (hb : GoodIn big b) : GoodIn big (c :: (a ++ b)) := fun w h => (List.mem_cons.mp h).elim (fun e => ha w (List.mem_cons.mpr (Or.inl e))) (fun h => (List.mem_append.mp h).elim (fun h => ha w (List.mem_cons.mpr (Or.inr h))) (hb w))
theorem goodIn_sub {big ws : List Cond} (hm : ∀ w ∈ ws, w ∈ big) (h : ws.all goodWord = true) : GoodIn big ws := fun w hw => ⟨hm w hw, good_of_word (List.all_eq_true.mp h w hw)⟩
/-! ===== END ===== -/

/-! ===== BEGIN new T[n][m]: the outer array a place, the inner ones among the pooled ===== -/
/-- f, but v at every address of l -/
def vr_up {α : Type} (f : Nat → α) (l : List Nat) (v : α) : Nat → α := fun a => if a ∈ l then v else f a
theorem vr_up_in {α : Type} {f : Nat → α} {l : List Nat} {v : α} {a : Nat} (h : a ∈ l) : vr_up f l v a = v := if_pos h
theorem vr_up_ne {α : Type} {f : Nat → α} {l : List Nat} {v : α} {a : Nat} (h : a ∉ l) : vr_up f l v a = f a := if_neg h
theorem vr_rows {L l : List Nat} {f : Nat → va_E} {e : va_E} (h : ∀ a, a ∈ l → a ∉ L) : va_pl L f ++ l.map (fun a => (a, e)) = va_pl (L ++ l) (vr_up f l e) := by
  unfold va_pl
  rw [List.map_append]
  congr 1
  · apply List.map_congr_left
    intro a ha
    rw [vr_up_ne (fun q => h a q ha)]
  · apply List.map_congr_left
    intro a ha
    rw [vr_up_in ha]
theorem vr_lay {X rows : va_W} {x : Nat × va_E} {pl : va_W} {D : va_G} {cl : List vw_C} {H : Heap} (hP : va_P D cl (((X ++ pl) ++ [x]) ++ rows) H) : va_P D cl ((X ++ [x]) ++ (pl ++ rows)) H := by
  rw [List.append_assoc (X ++ pl)] at hP
  have h := va_P.swap hP
  rw [← List.append_assoc X] at h
  have h2 := va_P.swap h
  rw [List.append_assoc (X ++ [x])] at h2
  exact h2
theorem vr_layD {X rows : va_W} {x : Nat × va_E} {pl : va_W} {A : Nat → Prop} (hD : va_D A (((X ++ pl) ++ [x]) ++ rows)) : va_D A ((X ++ [x]) ++ (pl ++ rows)) := by
  rw [List.append_assoc (X ++ pl)] at hD
  have h := va_D.swap hD
  rw [← List.append_assoc X] at h
  have h2 := va_D.swap h
  rw [List.append_assoc (X ++ [x])] at h2
  exact h2
theorem vr_outer (c : ClassId) (N h0 : Nat) : ∀ i : Nat, Jvm.Free.Multi.outerC c N h0 i = arrV c N (fun j => va_rf (if j < i then some (h0 + 1 + j) else none))
  | 0 => by
    show ({ cls := c, slots := Array.replicate N .null, vm := .none } : Cell) = _
    rw [arrV_new]
    refine congrArg (arrV c N) (funext fun j => ?_)
    simp [va_rf]
  | i + 1 => by
    show (Jvm.Free.Multi.outerC c N h0 i).setSlot i (.ref (h0 + 1 + i)) = _
    rw [vr_outer c N h0 i, arrV_store]
    refine congrArg (arrV c N) (funext fun j => ?_)
    by_cases e : j = i
    · subst e
      simp [updV, va_rf]
    · by_cases h : j < i
      · simp [updV, e, h, Nat.lt_succ_of_lt h]
      · simp [updV, e, h, show ¬ j < i + 1 by omega]
def va_AOA (ty : FieldType) (U : State) : Prop := (Cond.arrayOver (.array ty)).before #[] U = true
theorem va_AOA.use {ty : FieldType} {A : Array Value} {U : State} (h : va_AOA ty U) : (Cond.arrayOver (.array ty)).before A U = true := h
section VGM
variable {p : Program} {l : Launch} {e : Env} {R : Room} {s : State} {m : MethodId} {args : Array Value} {below : List Frame} {meth : Method} {c : Code} {H : Heap} {locs : List Loc} {cells slots : Nat} {Q : State → Prop}
variable {cc : ByteArray} {pc : Nat} {ls : Array Slot} {rest : List Value} {D : va_G} {cl : List vw_C} {A : Nat → Prop} {a : Nat} {tys : List (ClassId × FieldType)} {ws : va_W} {H0 : Heap}
theorem va_mna {X : va_W} {L : List Nat} {f : Nat → va_E} {cc : ByteArray} (hexec : p.tables.exec = Jvm.exec) (hb : c.code = cc) {own : String} {index : Nat} {ty : FieldType} {cy : ClassId} (hown : s.vm.findClass own = some m.cls) (hclink : (Cond.classLink own index ("[" ++ (FieldType.array ty).toString)).before args s = true) (hover : va_AOA ty s) (harr : (Cond.arrayClass ty).before args s = true) (hcy : s.vm.findClass (FieldType.array ty).toString = some cy)
    (hK : va_K D cl tys s) (hP : va_P D cl (X ++ va_pl L f) H) (hD : va_D A (X ++ va_pl L f)) (hS : va_S A H0 H locs) (hA : ∀ q, H0.size ≤ q → A q) {n k : Int32} {N' K' : Nat} {z : vp_A} (hn : ¬ n < 0) (hk : ¬ k < 0) (hN : n.toNatClampNeg = N') (hM : k.toNatClampNeg = K')
    (hb1 : N' * 4 ≤ 536870912) (hb2 : K' * componentBytes ty ≤ 536870912) (hb3 : K' ≤ 536870912) (hdf : fits ty (defaultValue ty) = true) (hdd : (defaultValue ty).isDefault = true) (hcells : cells + (1 + N') ≤ R.cells) (hslots : slots + (N' + N' * K') ≤ R.slots) (hz : ∀ c : ClassId, Jvm.Free.Multi.innerC c K' (defaultValue ty) = vp_cell c z) (hdg : decode cc pc = .ok (.multianewarray index 2, 4))
    (kk : ∀ (q : Nat) (r : Nat → Nat) (cA : ClassId) (H1 : Heap), (∀ i j : Nat, i < N' → j < N' → r i = r j → i = j) → (∀ i : Nat, i < N' → r i ∉ L) → va_K D cl (tys ++ [(cA, .array ty)]) s →
      va_P D cl ((X ++ [(q, .inl (cA, N', .inr (.inr (.inr (.inr (fun i => if i < N' then some (r i) else none))))))]) ++ va_pl (L ++ (List.range N').map r) (vr_up f ((List.range N').map r) (.inl (cy, z)))) H1 → va_D A ((X ++ [(q, .inl (cA, N', .inr (.inr (.inr (.inr (fun i => if i < N' then some (r i) else none))))))]) ++ va_pl (L ++ (List.range N').map r) (vr_up f ((List.range N').map r) (.inl (cy, z)))) → va_S A H0 H1 locs →
      W p l e R s m args below meth c H1 locs (cells + 1 + N') (slots + N' + N' * K') Q (F0 m (pc + 4) ls (.ref q :: rest))) : W p l e R s m args below meth c H locs cells slots Q (F0 m pc ls (.int k :: .int n :: rest)) := by
  subst hN
  subst hM
  intro T hT Xs
  obtain ⟨vm₁, cA, comp, -, fA, fC, hO, -, X', step⟩ := Xs.multianewarray2F hexec hown hclink (va_AOA.use hover) harr (g := F0 m pc ls (.int k :: .int n :: rest)) rfl (by rw [hb]; exact hdg) rfl hn hk hb1 hb2 hb3 hdf hdd hcells hslots
  have ec : some cy = some comp := hcy.symm.trans fC
  cases ec
  generalize hF : Jvm.Free.Multi.fill (T.setVm vm₁) cA cy n.toNatClampNeg k.toNatClampNeg (defaultValue ty) n.toNatClampNeg = F at X' step
  have hTh : (T.setVm vm₁).heap = H := hT
  obtain ⟨f1, f2, -, -⟩ := Jvm.Free.Multi.fill_facts (T.setVm vm₁) cA cy n.toNatClampNeg k.toNatClampNeg (defaultValue ty) n.toNatClampNeg
  rw [hF, hTh] at f1 f2
  have hold : ∀ x : Nat, x < H.size → F.heap[x]? = H[x]? := fun x hx => by
    have := Jvm.Free.Multi.fill_old (T.setVm vm₁) cA cy n.toNatClampNeg k.toNatClampNeg (defaultValue ty) (a := x) (by rw [hTh]; exact hx) n.toNatClampNeg
    rw [hF, hTh] at this
    exact this
  have hrow : ∀ j : Nat, j < n.toNatClampNeg → F.heap[H.size + 1 + j]? = some (vp_cell cy z) := fun j hj => by
    have := Jvm.Free.Multi.fill_inner (T.setVm vm₁) cA cy n.toNatClampNeg k.toNatClampNeg (defaultValue ty) n.toNatClampNeg j hj
    rw [hF, hTh, hz] at this
    exact this
  have hout : Jvm.Free.Multi.outerC cA n.toNatClampNeg H.size n.toNatClampNeg = vp_cell cA (n.toNatClampNeg, .inr (.inr (.inr (.inr (fun i => if i < n.toNatClampNeg then some (H.size + 1 + i) else none))))) := by
    rw [vp_cell_q]
    exact vr_outer cA n.toNatClampNeg H.size n.toNatClampNeg
  rw [hout] at f2
  have hlt : ∀ a, a ∈ L → a < H.size := fun a ha => by
    obtain ⟨k9, hk9⟩ := va_pl_get (X := X) (f := f) ha
    exact (hP k9 _ hk9).lt
  have hnl : ∀ i : Nat, i < n.toNatClampNeg → H.size + 1 + i ∉ L := fun i _ h => by
    have := hlt _ h
    omega
  have hnm : ∀ a, a ∈ (List.range n.toNatClampNeg).map (fun i => H.size + 1 + i) → a ∉ L := fun a ha h => by
    obtain ⟨i, -, rfl⟩ := List.mem_map.mp ha
    have := hlt _ h
    omega
  have hP0 : va_P D cl (X ++ va_pl L f) F.heap := hP.kept (fun k9 x hx => hold x.1 ((hP k9 x hx).lt))
  have hP1 : va_P D cl ((X ++ va_pl L f) ++ [(H.size, .inl (cA, n.toNatClampNeg, .inr (.inr (.inr (.inr (fun i => if i < n.toNatClampNeg then some (H.size + 1 + i) else none))))))]) F.heap := hP0.app (fun k9 x hx => by
    have h0 : k9 < 1 := (List.getElem?_eq_some_iff.mp hx).1
    rw [show k9 = 0 by omega] at hx
    cases hx
    exact f2)
  have hP2 : va_P D cl (((X ++ va_pl L f) ++ [(H.size, .inl (cA, n.toNatClampNeg, .inr (.inr (.inr (.inr (fun i => if i < n.toNatClampNeg then some (H.size + 1 + i) else none))))))]) ++ ((List.range n.toNatClampNeg).map (fun i => H.size + 1 + i)).map (fun a => (a, .inl (cy, z)))) F.heap := hP1.app (fun k9 x hx => by
    obtain ⟨a, ha, rfl⟩ := List.mem_map.mp (List.mem_of_getElem? hx)
    obtain ⟨i, hi, rfl⟩ := List.mem_map.mp ha
    exact hrow i (List.mem_range.mp hi))
  have hD2 : va_D A (((X ++ va_pl L f) ++ [(H.size, .inl (cA, n.toNatClampNeg, .inr (.inr (.inr (.inr (fun i => if i < n.toNatClampNeg then some (H.size + 1 + i) else none))))))]) ++ ((List.range n.toNatClampNeg).map (fun i => H.size + 1 + i)).map (fun a => (a, .inl (cy, z)))) := by
    have hD1 := hD.push (e := .inl (cA, n.toNatClampNeg, .inr (.inr (.inr (.inr (fun i => if i < n.toNatClampNeg then some (H.size + 1 + i) else none)))))) hP rfl (hA _ hS.1)
    generalize hW1 : (X ++ va_pl L f) ++ [(H.size, .inl (cA, n.toNatClampNeg, .inr (.inr (.inr (.inr (fun i => if i < n.toNatClampNeg then some (H.size + 1 + i) else none))))))] = W1 at hD1 hP1 ⊢
    have hle : ∀ (k9 : Nat) (x : Nat × va_E), W1[k9]? = some x → x.1 ≤ H.size := fun k9 x hx => by
      rw [← hW1] at hx
      by_cases hl : k9 < (X ++ va_pl L f).length
      · rw [List.getElem?_append_left hl] at hx
        exact Nat.le_of_lt ((hP k9 x hx).lt)
      · rw [List.getElem?_append_right (by omega)] at hx
        have h0 : k9 - (X ++ va_pl L f).length < 1 := (List.getElem?_eq_some_iff.mp hx).1
        rw [show k9 - (X ++ va_pl L f).length = 0 by omega] at hx
        cases hx
        exact Nat.le_refl _
    have hr : ∀ (k9 : Nat) (x : Nat × va_E), (((List.range n.toNatClampNeg).map (fun i => H.size + 1 + i)).map (fun a => ((a, .inl (cy, z)) : Nat × va_E)))[k9]? = some x → x.1 = H.size + 1 + k9 := fun k9 x hx => by
      rw [List.getElem?_map, List.getElem?_map] at hx
      by_cases h9 : k9 < n.toNatClampNeg
      · rw [List.getElem?_range h9] at hx
        cases hx
        rfl
      · have hn0 : (List.range n.toNatClampNeg)[k9]? = none := List.getElem?_eq_none (by rw [List.length_range]; omega)
        rw [hn0] at hx
        cases hx
    refine ⟨fun i j x y hi hj hxy => ?_, fun k9 x hx => ?_⟩
    · by_cases h1 : i < W1.length <;> by_cases h2 : j < W1.length
      · rw [List.getElem?_append_left h1] at hi
        rw [List.getElem?_append_left h2] at hj
        exact hD1.1 i j x y hi hj hxy
      · rw [List.getElem?_append_left h1] at hi
        rw [List.getElem?_append_right (by omega)] at hj
        have := hle _ _ hi
        have := hr _ _ hj
        omega
      · rw [List.getElem?_append_right (by omega)] at hi
        rw [List.getElem?_append_left h2] at hj
        have := hle _ _ hj
        have := hr _ _ hi
        omega
      · rw [List.getElem?_append_right (by omega)] at hi hj
        have := hr _ _ hi
        have := hr _ _ hj
        omega
    · by_cases h1 : k9 < W1.length
      · rw [List.getElem?_append_left h1] at hx
        exact hD1.2 k9 x hx
      · rw [List.getElem?_append_right (by omega)] at hx
        have := hr _ _ hx
        exact hA _ (by have := hS.1; omega)
  have hAr : ArrOfT s cA (.array ty) := fun N9 z9 => by
    obtain ⟨-, k9, hk9, cm9, hkk9⟩ := (hO 0 0 0).1
    exact ⟨(fun q hq => by cases hq), k9, hk9, cm9, hkk9⟩
  have hK2 : va_K D cl (tys ++ [(cA, .array ty)]) s := ⟨hK.1, fun k9 x hx => by
    by_cases hl : k9 < tys.length
    · rw [List.getElem?_append_left hl] at hx
      exact hK.2 k9 x hx
    · rw [List.getElem?_append_right (by omega)] at hx
      have h0 : k9 - tys.length < 1 := (List.getElem?_eq_some_iff.mp hx).1
      rw [show k9 - tys.length = 0 by omega] at hx
      cases hx
      exact ⟨hAr, fA⟩⟩
  obtain ⟨t, a1, b1⟩ := kk H.size (fun i => H.size + 1 + i) cA F.heap (fun i j _ _ h => by have h9 : H.size + 1 + i = H.size + 1 + j := h; omega) hnl hK2 (by rw [← vr_rows hnm]; exact vr_lay hP2) (by rw [← vr_rows hnm]; exact vr_layD hD2) ⟨by rw [f1]; have := hS.1; omega, fun x h1 h2 => (hold x (Nat.lt_of_lt_of_le h1 hS.1)).trans (hS.2.1 x h1 h2), hS.2.2⟩ F rfl X'
  refine ⟨t, step t ?_, b1⟩
  have e : T.heap.size = H.size := by rw [hT]
  rw [e]
  exact a1
end VGM
/-! ===== END ===== -/


def RX0 : String := "HollowWall$Readings"
def TX0 : u_T := fun k => match k with
  | 0 => ("HollowWall$Readings", "costBehind", "[[I", true)
  | 1 => ("HollowWall$Readings", "waysBehind", "[[I", true)
  | 2 => ("HollowWall$Readings", "costAhead", "[[I", true)
  | 3 => ("HollowWall$Readings", "waysAhead", "[[I", true)
  | 4 => ("HollowWall$Readings", "wall", "LHollowWall$Wall;", false)
  | 5 => ("HollowWall$Readings", "notes", "[I", false)
  | 6 => ("HollowWall$Readings", "isFree", "Z", false)
  | 7 => ("HollowWall$Readings", "bestCost", "I", false)
  | 8 => ("HollowWall$Readings", "bestWays", "I", false)
  | 9 => ("HollowWall$Readings", "leastCost", "I", false)
  | 10 => ("HollowWall$Readings", "wayCount", "I", false)
  | 11 => ("HollowWall$Readings", "tracedFirst", "I", false)
  | 12 => ("HollowWall$Readings", "tracedBy", "[I", true)
  | _ => ("HollowWall$Readings", "tracedCount", "[I", true)
def tyX0 : Nat → FieldType := fun k => match k with
  | 0 => .array (.array .int)
  | 1 => .array (.array .int)
  | 2 => .array (.array .int)
  | 3 => .array (.array .int)
  | 4 => .object "HollowWall$Wall"
  | 5 => .array .int
  | 6 => .boolean
  | 7 => .int
  | 8 => .int
  | 9 => .int
  | 10 => .int
  | 11 => .int
  | 12 => .array .int
  | _ => .array .int
abbrev wsX00 : List Cond := u_ws RX0 TX0 14
theorem nmX0 : ∀ a, a < 14 → ∀ b, b < 14 → a ≠ b → (TX0 a).2.1 ≠ (TX0 b).2.1 := by decide +kernel
theorem tyX0_ok : ∀ k, k < 14 → parseFieldDescriptor (TX0 k).2.2.1 = some (tyX0 k) := by decide +kernel
abbrev cX0_init : ByteArray := prog_2_method_1_code
def yX0_init : MethodName := ⟨RX0, "<init>", "()V"⟩
abbrev cX0_solve : ByteArray := prog_2_method_2_code
def yX0_solve : MethodName := ⟨RX0, "solve", "(LHollowWall$Site;Z)Z"⟩
abbrev cX0_stones : ByteArray := prog_2_method_3_code
def yX0_stones : MethodName := ⟨RX0, "stones", "()I"⟩
abbrev cX0_mayStart : ByteArray := prog_2_method_4_code
def yX0_mayStart : MethodName := ⟨RX0, "mayStart", "(I)Z"⟩
abbrev cX0_waysAt : ByteArray := prog_2_method_5_code
def yX0_waysAt : MethodName := ⟨RX0, "waysAt", "(I)I"⟩
abbrev cX0_waysWithout : ByteArray := prog_2_method_6_code
def yX0_waysWithout : MethodName := ⟨RX0, "waysWithout", "(I)I"⟩
abbrev cX0_followFromBehind : ByteArray := prog_2_method_7_code
def yX0_followFromBehind : MethodName := ⟨RX0, "followFromBehind", "(I)V"⟩
abbrev cX0_followBehind : ByteArray := prog_2_method_8_code
def yX0_followBehind : MethodName := ⟨RX0, "followBehind", "(III)V"⟩
abbrev cX0_offer : ByteArray := prog_2_method_9_code
def yX0_offer : MethodName := ⟨RX0, "offer", "(II)V"⟩
abbrev cX0_priceOf : ByteArray := prog_2_method_10_code
def yX0_priceOf : MethodName := ⟨RX0, "priceOf", "(III)I"⟩
abbrev cX0_followFromAhead : ByteArray := prog_2_method_11_code
def yX0_followFromAhead : MethodName := ⟨RX0, "followFromAhead", "()V"⟩
abbrev cX0_followAhead : ByteArray := prog_2_method_12_code
def yX0_followAhead : MethodName := ⟨RX0, "followAhead", "(II)V"⟩
abbrev cX0_isLeastAt : ByteArray := prog_2_method_13_code
def yX0_isLeastAt : MethodName := ⟨RX0, "isLeastAt", "(II)Z"⟩
abbrev cX0_sureness : ByteArray := prog_2_method_14_code
def yX0_sureness : MethodName := ⟨RX0, "sureness", "(I)I"⟩
abbrev cX0_allSaySame : ByteArray := prog_2_method_15_code
def yX0_allSaySame : MethodName := ⟨RX0, "allSaySame", "()Z"⟩
abbrev cX0_hollowWays : ByteArray := prog_2_method_16_code
def yX0_hollowWays : MethodName := ⟨RX0, "hollowWays", "(I)J"⟩
abbrev cX0_trace : ByteArray := prog_2_method_17_code
def yX0_trace : MethodName := ⟨RX0, "trace", "(I)V"⟩
abbrev cX0_traceFirst : ByteArray := prog_2_method_18_code
def yX0_traceFirst : MethodName := ⟨RX0, "traceFirst", "(I)I"⟩
abbrev cX0_traceStone : ByteArray := prog_2_method_19_code
def yX0_traceStone : MethodName := ⟨RX0, "traceStone", "(III)I"⟩
abbrev cX0_isTracedHollow : ByteArray := prog_2_method_20_code
def yX0_isTracedHollow : MethodName := ⟨RX0, "isTracedHollow", "(I)Z"⟩
def RX1 : String := "HollowWall$Round"
def TX1 : u_T := fun k => match k with
  | 0 => ("HollowWall$Round", "steps", "I", false)
  | 1 => ("HollowWall$Round", "length", "I", false)
  | 2 => ("HollowWall$Round", "kind", "[I", true)
  | 3 => ("HollowWall$Round", "number", "[I", true)
  | 4 => ("HollowWall$Round", "test", "[I", true)
  | _ => ("HollowWall$Round", "partner", "[I", true)
def tyX1 : Nat → FieldType := fun k => match k with
  | 0 => .int
  | 1 => .int
  | 2 => .array .int
  | 3 => .array .int
  | 4 => .array .int
  | _ => .array .int
abbrev wsX10 : List Cond := u_ws RX1 TX1 6
theorem nmX1 : ∀ a, a < 6 → ∀ b, b < 6 → a ≠ b → (TX1 a).2.1 ≠ (TX1 b).2.1 := by decide +kernel
theorem tyX1_ok : ∀ k, k < 6 → parseFieldDescriptor (TX1 k).2.2.1 = some (tyX1 k) := by decide +kernel
abbrev cX1_init : ByteArray := prog_3_method_1_code
def yX1_init : MethodName := ⟨RX1, "<init>", "()V"⟩
abbrev cX1_copyFrom : ByteArray := prog_3_method_2_code
def yX1_copyFrom : MethodName := ⟨RX1, "copyFrom", "(LHollowWall$Round;)V"⟩
abbrev cX1_add : ByteArray := prog_3_method_3_code
def yX1_add : MethodName := ⟨RX1, "add", "(I)I"⟩
abbrev cX1_pair : ByteArray := prog_3_method_4_code
def yX1_pair : MethodName := ⟨RX1, "pair", "(II)V"⟩
def RX2 : String := "HollowWall$RoundReader"
def TX2 : u_T := fun k => match k with
  | 0 => ("HollowWall$RoundReader", "round", "LHollowWall$Round;", true)
  | 1 => ("HollowWall$RoundReader", "openings", "[I", true)
  | _ => ("HollowWall$RoundReader", "open", "I", false)
def tyX2 : Nat → FieldType := fun k => match k with
  | 0 => .object "HollowWall$Round"
  | 1 => .array .int
  | _ => .int
abbrev wsX20 : List Cond := u_ws RX2 TX2 3
theorem nmX2 : ∀ a, a < 3 → ∀ b, b < 3 → a ≠ b → (TX2 a).2.1 ≠ (TX2 b).2.1 := by decide +kernel
theorem tyX2_ok : ∀ k, k < 3 → parseFieldDescriptor (TX2 k).2.2.1 = some (tyX2 k) := by decide +kernel
abbrev cX2_init : ByteArray := prog_4_method_1_code
def yX2_init : MethodName := ⟨RX2, "<init>", "()V"⟩
abbrev cX2_readRound : ByteArray := prog_4_method_2_code
def yX2_readRound : MethodName := ⟨RX2, "readRound", "(LHollowWall$Text;I)Z"⟩
abbrev cX2_readEnd : ByteArray := prog_4_method_3_code
def yX2_readEnd : MethodName := ⟨RX2, "readEnd", "(LHollowWall$Text;)Z"⟩
abbrev cX2_readStep : ByteArray := prog_4_method_4_code
def yX2_readStep : MethodName := ⟨RX2, "readStep", "(LHollowWall$Text;)Z"⟩
abbrev cX2_stepKind : ByteArray := prog_4_method_5_code
def yX2_stepKind : MethodName := ⟨RX2, "stepKind", "(LHollowWall$Text;)I"⟩
abbrev cX2_readRest : ByteArray := prog_4_method_6_code
def yX2_readRest : MethodName := ⟨RX2, "readRest", "(LHollowWall$Text;I)Z"⟩
abbrev cX2_readTest : ByteArray := prog_4_method_7_code
def yX2_readTest : MethodName := ⟨RX2, "readTest", "(LHollowWall$Text;I)Z"⟩
abbrev cX2_testKind : ByteArray := prog_4_method_8_code
def yX2_testKind : MethodName := ⟨RX2, "testKind", "(LHollowWall$Text;)I"⟩
abbrev cX2_compareKind : ByteArray := prog_4_method_9_code
def yX2_compareKind : MethodName := ⟨RX2, "compareKind", "(LHollowWall$Text;)I"⟩
def RX3 : String := "HollowWall$Site"
def TX3 : u_T := fun k => match k with
  | 0 => ("HollowWall$Site", "wall", "LHollowWall$Wall;", true)
  | 1 => ("HollowWall$Site", "notes", "[I", true)
  | 2 => ("HollowWall$Site", "round", "LHollowWall$Round;", true)
  | 3 => ("HollowWall$Site", "hasRound", "Z", false)
  | _ => ("HollowWall$Site", "hammer", "I", false)
def tyX3 : Nat → FieldType := fun k => match k with
  | 0 => .object "HollowWall$Wall"
  | 1 => .array .int
  | 2 => .object "HollowWall$Round"
  | 3 => .boolean
  | _ => .int
abbrev wsX30 : List Cond := u_ws RX3 TX3 5
theorem nmX3 : ∀ a, a < 5 → ∀ b, b < 5 → a ≠ b → (TX3 a).2.1 ≠ (TX3 b).2.1 := by decide +kernel
theorem tyX3_ok : ∀ k, k < 5 → parseFieldDescriptor (TX3 k).2.2.1 = some (tyX3 k) := by decide +kernel
abbrev cX3_init : ByteArray := prog_5_method_1_code
def yX3_init : MethodName := ⟨RX3, "<init>", "()V"⟩
abbrev cX3_copyFrom : ByteArray := prog_5_method_2_code
def yX3_copyFrom : MethodName := ⟨RX3, "copyFrom", "(LHollowWall$Site;)V"⟩
abbrev cX3_build : ByteArray := prog_5_method_3_code
def yX3_build : MethodName := ⟨RX3, "build", "(LHollowWall$Wall;)V"⟩
abbrev cX3_countNotes : ByteArray := prog_5_method_4_code
def yX3_countNotes : MethodName := ⟨RX3, "countNotes", "()I"⟩
abbrev cX3_isOath : ByteArray := prog_5_method_5_code
def yX3_isOath : MethodName := ⟨RX3, "isOath", "(II)Z"⟩
abbrev cX3_isTwice : ByteArray := prog_5_method_6_code
def yX3_isTwice : MethodName := ⟨RX3, "isTwice", "(I)Z"⟩
abbrev cX3_isExplained : ByteArray := prog_5_method_7_code
def yX3_isExplained : MethodName := ⟨RX3, "isExplained", "(III)Z"⟩
def RX4 : String := "HollowWall$Telling"
def TX4 : u_T := fun k => match k with
  | 0 => ("HollowWall$Telling", "hollowIn", "[I", true)
  | 1 => ("HollowWall$Telling", "askedStone", "[I", true)
  | 2 => ("HollowWall$Telling", "asked", "I", false)
  | 3 => ("HollowWall$Telling", "fewest", "[I", true)
  | 4 => ("HollowWall$Telling", "knocks", "I", false)
  | _ => ("HollowWall$Telling", "bestStone", "I", false)
def tyX4 : Nat → FieldType := fun k => match k with
  | 0 => .array .int
  | 1 => .array .int
  | 2 => .int
  | 3 => .array .int
  | 4 => .int
  | _ => .int
abbrev wsX40 : List Cond := u_ws RX4 TX4 6
theorem nmX4 : ∀ a, a < 6 → ∀ b, b < 6 → a ≠ b → (TX4 a).2.1 ≠ (TX4 b).2.1 := by decide +kernel
theorem tyX4_ok : ∀ k, k < 6 → parseFieldDescriptor (TX4 k).2.2.1 = some (tyX4 k) := by decide +kernel
abbrev cX4_init : ByteArray := prog_6_method_1_code
def yX4_init : MethodName := ⟨RX4, "<init>", "()V"⟩
abbrev cX4_plan : ByteArray := prog_6_method_2_code
def yX4_plan : MethodName := ⟨RX4, "plan", "(LHollowWall$Readings;)V"⟩
abbrev cX4_gather : ByteArray := prog_6_method_3_code
def yX4_gather : MethodName := ⟨RX4, "gather", "(LHollowWall$Readings;I)V"⟩
abbrev cX4_chooseStones : ByteArray := prog_6_method_4_code
def yX4_chooseStones : MethodName := ⟨RX4, "chooseStones", "(II)V"⟩
abbrev cX4_isAsked : ByteArray := prog_6_method_5_code
def yX4_isAsked : MethodName := ⟨RX4, "isAsked", "(II)Z"⟩
abbrev cX4_neededBy : ByteArray := prog_6_method_6_code
def yX4_neededBy : MethodName := ⟨RX4, "neededBy", "(II)I"⟩
abbrev cX4_fewestFor : ByteArray := prog_6_method_7_code
def yX4_fewestFor : MethodName := ⟨RX4, "fewestFor", "(I)I"⟩
abbrev cX4_bestFor : ByteArray := prog_6_method_8_code
def yX4_bestFor : MethodName := ⟨RX4, "bestFor", "(I)I"⟩
def RX5 : String := "HollowWall$Text"
def TX5 : u_T := fun k => match k with
  | 0 => ("HollowWall$Text", "bytes", "[B", true)
  | 1 => ("HollowWall$Text", "length", "I", false)
  | 2 => ("HollowWall$Text", "faultKind", "I", false)
  | 3 => ("HollowWall$Text", "faultPlace", "I", false)
  | 4 => ("HollowWall$Text", "kind", "I", false)
  | 5 => ("HollowWall$Text", "start", "I", false)
  | 6 => ("HollowWall$Text", "next", "I", false)
  | 7 => ("HollowWall$Text", "textLength", "I", false)
  | 8 => ("HollowWall$Text", "value", "I", false)
  | _ => ("HollowWall$Text", "numberPlace", "I", false)
def tyX5 : Nat → FieldType := fun k => match k with
  | 0 => .array .byte
  | 1 => .int
  | 2 => .int
  | 3 => .int
  | 4 => .int
  | 5 => .int
  | 6 => .int
  | 7 => .int
  | 8 => .int
  | _ => .int
abbrev wsX50 : List Cond := u_ws RX5 TX5 10
theorem nmX5 : ∀ a, a < 10 → ∀ b, b < 10 → a ≠ b → (TX5 a).2.1 ≠ (TX5 b).2.1 := by decide +kernel
theorem tyX5_ok : ∀ k, k < 10 → parseFieldDescriptor (TX5 k).2.2.1 = some (tyX5 k) := by decide +kernel
abbrev cX5_init : ByteArray := prog_7_method_1_code
def yX5_init : MethodName := ⟨RX5, "<init>", "()V"⟩
abbrev cX5_append : ByteArray := prog_7_method_2_code
def yX5_append : MethodName := ⟨RX5, "append", "(I)V"⟩
abbrev cX5_begin : ByteArray := prog_7_method_3_code
def yX5_begin : MethodName := ⟨RX5, "begin", "(I)V"⟩
abbrev cX5_advance : ByteArray := prog_7_method_4_code
def yX5_advance : MethodName := ⟨RX5, "advance", "()V"⟩
abbrev cX5_passToken : ByteArray := prog_7_method_5_code
def yX5_passToken : MethodName := ⟨RX5, "passToken", "(I)V"⟩
abbrev cX5_isWord : ByteArray := prog_7_method_6_code
def yX5_isWord : MethodName := ⟨RX5, "isWord", "(Ljava/lang/String;)Z"⟩
abbrev cX5_isSign : ByteArray := prog_7_method_7_code
def yX5_isSign : MethodName := ⟨RX5, "isSign", "(I)Z"⟩
abbrev cX5_isName : ByteArray := prog_7_method_8_code
def yX5_isName : MethodName := ⟨RX5, "isName", "()Z"⟩
abbrev cX5_isReservedFrom : ByteArray := prog_7_method_9_code
def yX5_isReservedFrom : MethodName := ⟨RX5, "isReservedFrom", "(I)Z"⟩
abbrev cX5_faultAt : ByteArray := prog_7_method_10_code
def yX5_faultAt : MethodName := ⟨RX5, "faultAt", "(II)Z"⟩
abbrev cX5_faultHere : ByteArray := prog_7_method_11_code
def yX5_faultHere : MethodName := ⟨RX5, "faultHere", "(I)Z"⟩
abbrev cX5_misplaced : ByteArray := prog_7_method_12_code
def yX5_misplaced : MethodName := ⟨RX5, "misplaced", "()Z"⟩
abbrev cX5_takeWord : ByteArray := prog_7_method_13_code
def yX5_takeWord : MethodName := ⟨RX5, "takeWord", "(Ljava/lang/String;)Z"⟩
abbrev cX5_takeSemicolon : ByteArray := prog_7_method_14_code
def yX5_takeSemicolon : MethodName := ⟨RX5, "takeSemicolon", "()Z"⟩
abbrev cX5_takeNumber : ByteArray := prog_7_method_15_code
def yX5_takeNumber : MethodName := ⟨RX5, "takeNumber", "(II)I"⟩
abbrev cX5_faultAtNumber : ByteArray := prog_7_method_16_code
def yX5_faultAtNumber : MethodName := ⟨RX5, "faultAtNumber", "(I)Z"⟩
def RX6 : String := "HollowWall$Tray"
def TX6 : u_T := fun k => match k with
  | 0 => ("HollowWall$Tray", "numbers", "[J", true)
  | 1 => ("HollowWall$Tray", "missing", "Z", false)
  | 2 => ("HollowWall$Tray", "sort", "I", false)
  | _ => ("HollowWall$Tray", "length", "I", false)
def tyX6 : Nat → FieldType := fun k => match k with
  | 0 => .array .long
  | 1 => .boolean
  | 2 => .int
  | _ => .int
abbrev wsX60 : List Cond := u_ws RX6 TX6 4
theorem nmX6 : ∀ a, a < 4 → ∀ b, b < 4 → a ≠ b → (TX6 a).2.1 ≠ (TX6 b).2.1 := by decide +kernel
theorem tyX6_ok : ∀ k, k < 4 → parseFieldDescriptor (TX6 k).2.2.1 = some (tyX6 k) := by decide +kernel
abbrev cX6_init : ByteArray := prog_8_method_1_code
def yX6_init : MethodName := ⟨RX6, "<init>", "()V"⟩
abbrev cX6_lay : ByteArray := prog_8_method_2_code
def yX6_lay : MethodName := ⟨RX6, "lay", "(II)V"⟩
abbrev cX6_put : ByteArray := prog_8_method_3_code
def yX6_put : MethodName := ⟨RX6, "put", "(IJ)V"⟩
abbrev cX6_hasPlace : ByteArray := prog_8_method_4_code
def yX6_hasPlace : MethodName := ⟨RX6, "hasPlace", "(I)Z"⟩
abbrev cX6_hasRow : ByteArray := prog_8_method_5_code
def yX6_hasRow : MethodName := ⟨RX6, "hasRow", "(II)Z"⟩
def RX7 : String := "HollowWall$Walker"
def TX7 : u_T := fun k => match k with
  | 0 => ("HollowWall$Walker", "notes", "[I", true)
  | 1 => ("HollowWall$Walker", "timesLeft", "[I", true)
  | 2 => ("HollowWall$Walker", "draw", "I", false)
  | 3 => ("HollowWall$Walker", "errors", "I", false)
  | 4 => ("HollowWall$Walker", "heard", "I", false)
  | 5 => ("HollowWall$Walker", "at", "I", false)
  | 6 => ("HollowWall$Walker", "hasRun", "Z", false)
  | 7 => ("HollowWall$Walker", "steps", "I", false)
  | 8 => ("HollowWall$Walker", "knocks", "I", false)
  | 9 => ("HollowWall$Walker", "heardWrong", "I", false)
  | 10 => ("HollowWall$Walker", "notesMade", "I", false)
  | _ => ("HollowWall$Walker", "isStepLeft", "Z", false)
def tyX7 : Nat → FieldType := fun k => match k with
  | 0 => .array .int
  | 1 => .array .int
  | 2 => .int
  | 3 => .int
  | 4 => .int
  | 5 => .int
  | 6 => .boolean
  | 7 => .int
  | 8 => .int
  | 9 => .int
  | 10 => .int
  | _ => .boolean
abbrev wsX70 : List Cond := u_ws RX7 TX7 12
theorem nmX7 : ∀ a, a < 12 → ∀ b, b < 12 → a ≠ b → (TX7 a).2.1 ≠ (TX7 b).2.1 := by decide +kernel
theorem tyX7_ok : ∀ k, k < 12 → parseFieldDescriptor (TX7 k).2.2.1 = some (tyX7 k) := by decide +kernel
abbrev cX7_init : ByteArray := prog_9_method_1_code
def yX7_init : MethodName := ⟨RX7, "<init>", "()V"⟩
abbrev cX7_run : ByteArray := prog_9_method_2_code
def yX7_run : MethodName := ⟨RX7, "run", "(LHollowWall$Site;II)V"⟩
abbrev cX7_begin : ByteArray := prog_9_method_3_code
def yX7_begin : MethodName := ⟨RX7, "begin", "(LHollowWall$Site;II)V"⟩
abbrev cX7_behindEnd : ByteArray := prog_9_method_4_code
def yX7_behindEnd : MethodName := ⟨RX7, "behindEnd", "(LHollowWall$Round;I)I"⟩
abbrev cX7_behindStep : ByteArray := prog_9_method_5_code
def yX7_behindStep : MethodName := ⟨RX7, "behindStep", "(LHollowWall$Site;I)I"⟩
abbrev cX7_listen : ByteArray := prog_9_method_6_code
def yX7_listen : MethodName := ⟨RX7, "listen", "(Z)V"⟩
abbrev cX7_writeDown : ByteArray := prog_9_method_7_code
def yX7_writeDown : MethodName := ⟨RX7, "writeDown", "()V"⟩
abbrev cX7_holds : ByteArray := prog_9_method_8_code
def yX7_holds : MethodName := ⟨RX7, "holds", "(LHollowWall$Wall;II)Z"⟩
def RX8 : String := "HollowWall$Wall"
def TX8 : u_T := fun k => match k with
  | 0 => ("HollowWall$Wall", "oath", "I", false)
  | 1 => ("HollowWall$Wall", "first", "I", false)
  | 2 => ("HollowWall$Wall", "stones", "I", false)
  | 3 => ("HollowWall$Wall", "courses", "I", false)
  | 4 => ("HollowWall$Wall", "masons", "I", false)
  | 5 => ("HollowWall$Wall", "slips", "I", false)
  | 6 => ("HollowWall$Wall", "finds", "I", false)
  | 7 => ("HollowWall$Wall", "courseStart", "[I", true)
  | 8 => ("HollowWall$Wall", "lays", "[I", true)
  | 9 => ("HollowWall$Wall", "costs", "[I", true)
  | 10 => ("HollowWall$Wall", "laidFrom", "[I", true)
  | 11 => ("HollowWall$Wall", "laidMany", "[I", true)
  | 12 => ("HollowWall$Wall", "courseOf", "[I", true)
  | 13 => ("HollowWall$Wall", "laidBy", "[I", true)
  | 14 => ("HollowWall$Wall", "slipCost", "[I", true)
  | 15 => ("HollowWall$Wall", "slipBy", "[I", true)
  | 16 => ("HollowWall$Wall", "findYear", "[I", true)
  | 17 => ("HollowWall$Wall", "trueCount", "[I", true)
  | _ => ("HollowWall$Wall", "swornCount", "[I", true)
def tyX8 : Nat → FieldType := fun k => match k with
  | 0 => .int
  | 1 => .int
  | 2 => .int
  | 3 => .int
  | 4 => .int
  | 5 => .int
  | 6 => .int
  | 7 => .array .int
  | 8 => .array .int
  | 9 => .array .int
  | 10 => .array .int
  | 11 => .array .int
  | 12 => .array .int
  | 13 => .array .int
  | 14 => .array .int
  | 15 => .array .int
  | 16 => .array .int
  | 17 => .array .int
  | _ => .array .int
abbrev wsX80 : List Cond := u_ws RX8 TX8 19
theorem nmX8 : ∀ a, a < 19 → ∀ b, b < 19 → a ≠ b → (TX8 a).2.1 ≠ (TX8 b).2.1 := by decide +kernel
theorem tyX8_ok : ∀ k, k < 19 → parseFieldDescriptor (TX8 k).2.2.1 = some (tyX8 k) := by decide +kernel
abbrev cX8_init : ByteArray := prog_10_method_1_code
def yX8_init : MethodName := ⟨RX8, "<init>", "()V"⟩
abbrev cX8_wipe : ByteArray := prog_10_method_2_code
def yX8_wipe : MethodName := ⟨RX8, "wipe", "()V"⟩
abbrev cX8_copyFrom : ByteArray := prog_10_method_3_code
def yX8_copyFrom : MethodName := ⟨RX8, "copyFrom", "(LHollowWall$Wall;)V"⟩
abbrev cX8_hasStone : ByteArray := prog_10_method_4_code
def yX8_hasStone : MethodName := ⟨RX8, "hasStone", "(I)Z"⟩
abbrev cX8_hasMason : ByteArray := prog_10_method_5_code
def yX8_hasMason : MethodName := ⟨RX8, "hasMason", "(I)Z"⟩
abbrev cX8_addCourse : ByteArray := prog_10_method_6_code
def yX8_addCourse : MethodName := ⟨RX8, "addCourse", "(I)V"⟩
abbrev cX8_addMason : ByteArray := prog_10_method_7_code
def yX8_addMason : MethodName := ⟨RX8, "addMason", "(II)V"⟩
abbrev cX8_addSlip : ByteArray := prog_10_method_8_code
def yX8_addSlip : MethodName := ⟨RX8, "addSlip", "(II)V"⟩
abbrev cX8_addFind : ByteArray := prog_10_method_9_code
def yX8_addFind : MethodName := ⟨RX8, "addFind", "(II)V"⟩
abbrev cX8_settle : ByteArray := prog_10_method_10_code
def yX8_settle : MethodName := ⟨RX8, "settle", "()V"⟩
abbrev cX8_layByMasons : ByteArray := prog_10_method_11_code
def yX8_layByMasons : MethodName := ⟨RX8, "layByMasons", "()V"⟩
abbrev cX8_countStones : ByteArray := prog_10_method_12_code
def yX8_countStones : MethodName := ⟨RX8, "countStones", "()V"⟩
abbrev cX8_isHollow : ByteArray := prog_10_method_13_code
def yX8_isHollow : MethodName := ⟨RX8, "isHollow", "(I)Z"⟩
abbrev cX8_isSwornHollow : ByteArray := prog_10_method_14_code
def yX8_isSwornHollow : MethodName := ⟨RX8, "isSwornHollow", "(I)Z"⟩
abbrev cX8_isCourseStart : ByteArray := prog_10_method_15_code
def yX8_isCourseStart : MethodName := ⟨RX8, "isCourseStart", "(I)Z"⟩
abbrev cX8_placeInCourse : ByteArray := prog_10_method_16_code
def yX8_placeInCourse : MethodName := ⟨RX8, "placeInCourse", "(I)I"⟩
abbrev cX8_nextCourseStart : ByteArray := prog_10_method_17_code
def yX8_nextCourseStart : MethodName := ⟨RX8, "nextCourseStart", "(I)I"⟩
abbrev cX8_slipsOf : ByteArray := prog_10_method_18_code
def yX8_slipsOf : MethodName := ⟨RX8, "slipsOf", "(I)I"⟩
abbrev cX8_toldCost : ByteArray := prog_10_method_19_code
def yX8_toldCost : MethodName := ⟨RX8, "toldCost", "(I)I"⟩
abbrev cX8_toldCostOf : ByteArray := prog_10_method_20_code
def yX8_toldCostOf : MethodName := ⟨RX8, "toldCostOf", "(I)I"⟩
abbrev cX8_isHollowFind : ByteArray := prog_10_method_21_code
def yX8_isHollowFind : MethodName := ⟨RX8, "isHollowFind", "(I)Z"⟩
abbrev cX8_yearAhead : ByteArray := prog_10_method_22_code
def yX8_yearAhead : MethodName := ⟨RX8, "yearAhead", "(I)I"⟩
abbrev cX8_yearBehind : ByteArray := prog_10_method_23_code
def yX8_yearBehind : MethodName := ⟨RX8, "yearBehind", "(I)I"⟩
def RX9 : String := "HollowWall$WallReader"
def TX9 : u_T := fun k => match k with
  | 0 => ("HollowWall$WallReader", "wall", "LHollowWall$Wall;", true)
  | 1 => ("HollowWall$WallReader", "nameStart", "[I", true)
  | 2 => ("HollowWall$WallReader", "nameLength", "[I", true)
  | _ => ("HollowWall$WallReader", "lastSlip", "I", false)
def tyX9 : Nat → FieldType := fun k => match k with
  | 0 => .object "HollowWall$Wall"
  | 1 => .array .int
  | 2 => .array .int
  | _ => .int
abbrev wsX90 : List Cond := u_ws RX9 TX9 4
theorem nmX9 : ∀ a, a < 4 → ∀ b, b < 4 → a ≠ b → (TX9 a).2.1 ≠ (TX9 b).2.1 := by decide +kernel
theorem tyX9_ok : ∀ k, k < 4 → parseFieldDescriptor (TX9 k).2.2.1 = some (tyX9 k) := by decide +kernel
abbrev cX9_init : ByteArray := prog_11_method_1_code
def yX9_init : MethodName := ⟨RX9, "<init>", "()V"⟩
abbrev cX9_readWall : ByteArray := prog_11_method_2_code
def yX9_readWall : MethodName := ⟨RX9, "readWall", "(LHollowWall$Text;I)Z"⟩
abbrev cX9_readOath : ByteArray := prog_11_method_3_code
def yX9_readOath : MethodName := ⟨RX9, "readOath", "(LHollowWall$Text;)Z"⟩
abbrev cX9_readCourse : ByteArray := prog_11_method_4_code
def yX9_readCourse : MethodName := ⟨RX9, "readCourse", "(LHollowWall$Text;)Z"⟩
abbrev cX9_readMason : ByteArray := prog_11_method_5_code
def yX9_readMason : MethodName := ⟨RX9, "readMason", "(LHollowWall$Text;)Z"⟩
abbrev cX9_takeName : ByteArray := prog_11_method_6_code
def yX9_takeName : MethodName := ⟨RX9, "takeName", "(LHollowWall$Text;)Z"⟩
abbrev cX9_isSame : ByteArray := prog_11_method_7_code
def yX9_isSame : MethodName := ⟨RX9, "isSame", "([BIII)Z"⟩
abbrev cX9_readSlip : ByteArray := prog_11_method_8_code
def yX9_readSlip : MethodName := ⟨RX9, "readSlip", "(LHollowWall$Text;)Z"⟩
abbrev cX9_readFind : ByteArray := prog_11_method_9_code
def yX9_readFind : MethodName := ⟨RX9, "readFind", "(LHollowWall$Text;)Z"⟩
def RX10 : String := "HollowWall"
def TX10 : u_T := fun k => match k with
  | 0 => ("HollowWall", "status", "I", false)
  | 1 => ("HollowWall", "top", "J", false)
  | 2 => ("HollowWall", "bottom", "J", false)
  | 3 => ("HollowWall", "trays", "[LHollowWall$Tray;", true)
  | 4 => ("HollowWall", "text", "LHollowWall$Text;", true)
  | 5 => ("HollowWall", "site", "LHollowWall$Site;", true)
  | 6 => ("HollowWall", "marks", "[LHollowWall$Site;", true)
  | 7 => ("HollowWall", "markCount", "I", false)
  | 8 => ("HollowWall", "wallReader", "LHollowWall$WallReader;", true)
  | 9 => ("HollowWall", "roundReader", "LHollowWall$RoundReader;", true)
  | 10 => ("HollowWall", "readings", "LHollowWall$Readings;", true)
  | 11 => ("HollowWall", "teller", "LHollowWall$Telling;", true)
  | 12 => ("HollowWall", "walker", "LHollowWall$Walker;", true)
  | 13 => ("HollowWall", "trial", "LHollowWall$Walker;", true)
  | 14 => ("HollowWall", "explainedFirst", "I", false)
  | 15 => ("HollowWall", "explainedSlips", "I", false)
  | 16 => ("HollowWall", "explainedStone", "[I", true)
  | 17 => ("HollowWall", "explainedBy", "[I", true)
  | _ => ("HollowWall", "rowUpTo", "[I", true)
def tyX10 : Nat → FieldType := fun k => match k with
  | 0 => .int
  | 1 => .long
  | 2 => .long
  | 3 => .array (.object "HollowWall$Tray")
  | 4 => .object "HollowWall$Text"
  | 5 => .object "HollowWall$Site"
  | 6 => .array (.object "HollowWall$Site")
  | 7 => .int
  | 8 => .object "HollowWall$WallReader"
  | 9 => .object "HollowWall$RoundReader"
  | 10 => .object "HollowWall$Readings"
  | 11 => .object "HollowWall$Telling"
  | 12 => .object "HollowWall$Walker"
  | 13 => .object "HollowWall$Walker"
  | 14 => .int
  | 15 => .int
  | 16 => .array .int
  | 17 => .array .int
  | _ => .array .int
abbrev wsX100 : List Cond := u_ws RX10 TX10 19
theorem nmX10 : ∀ a, a < 19 → ∀ b, b < 19 → a ≠ b → (TX10 a).2.1 ≠ (TX10 b).2.1 := by decide +kernel
theorem tyX10_ok : ∀ k, k < 19 → parseFieldDescriptor (TX10 k).2.2.1 = some (tyX10 k) := by decide +kernel
abbrev cX10_init : ByteArray := prog_1_method_1_code
def yX10_init : MethodName := ⟨RX10, "<init>", "()V"⟩
abbrev cX10_status : ByteArray := prog_1_method_2_code
def yX10_status : MethodName := ⟨RX10, "status", "()I"⟩
abbrev cX10_top : ByteArray := prog_1_method_3_code
def yX10_top : MethodName := ⟨RX10, "top", "()J"⟩
abbrev cX10_bottom : ByteArray := prog_1_method_4_code
def yX10_bottom : MethodName := ⟨RX10, "bottom", "()J"⟩
abbrev cX10_answer : ByteArray := prog_1_method_5_code
def yX10_answer : MethodName := ⟨RX10, "answer", "(I)I"⟩
abbrev cX10_refuse : ByteArray := prog_1_method_6_code
def yX10_refuse : MethodName := ⟨RX10, "refuse", "(I)I"⟩
abbrev cX10_accept : ByteArray := prog_1_method_7_code
def yX10_accept : MethodName := ⟨RX10, "accept", "()Z"⟩
abbrev cX10_deny : ByteArray := prog_1_method_8_code
def yX10_deny : MethodName := ⟨RX10, "deny", "(I)Z"⟩
abbrev cX10_answerOrNothing : ByteArray := prog_1_method_9_code
def yX10_answerOrNothing : MethodName := ⟨RX10, "answerOrNothing", "(I)I"⟩
abbrev cX10_tellFraction : ByteArray := prog_1_method_10_code
def yX10_tellFraction : MethodName := ⟨RX10, "tellFraction", "(JJ)V"⟩
abbrev cX10_isWithin : ByteArray := prog_1_method_11_code
def yX10_isWithin : MethodName := ⟨RX10, "isWithin", "(III)Z"⟩
abbrev cX10_trayAt : ByteArray := prog_1_method_12_code
def yX10_trayAt : MethodName := ⟨RX10, "trayAt", "(I)LHollowWall$Tray;"⟩
abbrev cX10_placeStatus : ByteArray := prog_1_method_13_code
def yX10_placeStatus : MethodName := ⟨RX10, "placeStatus", "(LHollowWall$Tray;I)I"⟩
abbrev cX10_tray : ByteArray := prog_1_method_14_code
def yX10_tray : MethodName := ⟨RX10, "tray", "(III)Z"⟩
abbrev cX10_write : ByteArray := prog_1_method_15_code
def yX10_write : MethodName := ⟨RX10, "write", "(IIJ)Z"⟩
abbrev cX10_read : ByteArray := prog_1_method_16_code
def yX10_read : MethodName := ⟨RX10, "read", "(II)J"⟩
abbrev cX10_pour : ByteArray := prog_1_method_17_code
def yX10_pour : MethodName := ⟨RX10, "pour", "(IIIII)Z"⟩
abbrev cX10_feed : ByteArray := prog_1_method_18_code
def yX10_feed : MethodName := ⟨RX10, "feed", "(IIIII)I"⟩
abbrev cX10_wall : ByteArray := prog_1_method_19_code
def yX10_wall : MethodName := ⟨RX10, "wall", "(I)I"⟩
abbrev cX10_round : ByteArray := prog_1_method_20_code
def yX10_round : MethodName := ⟨RX10, "round", "(I)I"⟩
abbrev cX10_fault : ByteArray := prog_1_method_21_code
def yX10_fault : MethodName := ⟨RX10, "fault", "(I)I"⟩
abbrev cX10_many : ByteArray := prog_1_method_22_code
def yX10_many : MethodName := ⟨RX10, "many", "(I)I"⟩
abbrev cX10_stone : ByteArray := prog_1_method_23_code
def yX10_stone : MethodName := ⟨RX10, "stone", "(II)I"⟩
abbrev cX10_mason : ByteArray := prog_1_method_24_code
def yX10_mason : MethodName := ⟨RX10, "mason", "(II)I"⟩
abbrev cX10_hollows : ByteArray := prog_1_method_25_code
def yX10_hollows : MethodName := ⟨RX10, "hollows", "(II)I"⟩
abbrev cX10_hollowAt : ByteArray := prog_1_method_26_code
def yX10_hollowAt : MethodName := ⟨RX10, "hollowAt", "(I)I"⟩
abbrev cX10_nextHollow : ByteArray := prog_1_method_27_code
def yX10_nextHollow : MethodName := ⟨RX10, "nextHollow", "(I)I"⟩
abbrev cX10_gap : ByteArray := prog_1_method_28_code
def yX10_gap : MethodName := ⟨RX10, "gap", "()I"⟩
abbrev cX10_shift : ByteArray := prog_1_method_29_code
def yX10_shift : MethodName := ⟨RX10, "shift", "(I)I"⟩
abbrev cX10_price : ByteArray := prog_1_method_30_code
def yX10_price : MethodName := ⟨RX10, "price", "()I"⟩
abbrev cX10_dearest : ByteArray := prog_1_method_31_code
def yX10_dearest : MethodName := ⟨RX10, "dearest", "()I"⟩
abbrev cX10_astray : ByteArray := prog_1_method_32_code
def yX10_astray : MethodName := ⟨RX10, "astray", "()I"⟩
abbrev cX10_knock : ByteArray := prog_1_method_33_code
def yX10_knock : MethodName := ⟨RX10, "knock", "(I)I"⟩
abbrev cX10_note : ByteArray := prog_1_method_34_code
def yX10_note : MethodName := ⟨RX10, "note", "(II)Z"⟩
abbrev cX10_clear : ByteArray := prog_1_method_35_code
def yX10_clear : MethodName := ⟨RX10, "clear", "()I"⟩
abbrev cX10_wrong : ByteArray := prog_1_method_36_code
def yX10_wrong : MethodName := ⟨RX10, "wrong", "()I"⟩
abbrev cX10_agrees : ByteArray := prog_1_method_37_code
def yX10_agrees : MethodName := ⟨RX10, "agrees", "(IZ)Z"⟩
abbrev cX10_least : ByteArray := prog_1_method_38_code
def yX10_least : MethodName := ⟨RX10, "least", "(Z)I"⟩
abbrev cX10_ways : ByteArray := prog_1_method_39_code
def yX10_ways : MethodName := ⟨RX10, "ways", "(Z)I"⟩
abbrev cX10_explain : ByteArray := prog_1_method_40_code
def yX10_explain : MethodName := ⟨RX10, "explain", "(Z)I"⟩
abbrev cX10_slipAt : ByteArray := prog_1_method_41_code
def yX10_slipAt : MethodName := ⟨RX10, "slipAt", "(II)I"⟩
abbrev cX10_firstCount : ByteArray := prog_1_method_42_code
def yX10_firstCount : MethodName := ⟨RX10, "firstCount", "()I"⟩
abbrev cX10_sure : ByteArray := prog_1_method_43_code
def yX10_sure : MethodName := ⟨RX10, "sure", "(IZ)I"⟩
abbrev cX10_blame : ByteArray := prog_1_method_44_code
def yX10_blame : MethodName := ⟨RX10, "blame", "(IZ)Z"⟩
abbrev cX10_telling : ByteArray := prog_1_method_45_code
def yX10_telling : MethodName := ⟨RX10, "telling", "(ZI)I"⟩
abbrev cX10_oaths : ByteArray := prog_1_method_46_code
def yX10_oaths : MethodName := ⟨RX10, "oaths", "()I"⟩
abbrev cX10_oathAt : ByteArray := prog_1_method_47_code
def yX10_oathAt : MethodName := ⟨RX10, "oathAt", "(II)I"⟩
abbrev cX10_bestKnock : ByteArray := prog_1_method_48_code
def yX10_bestKnock : MethodName := ⟨RX10, "bestKnock", "(Z)I"⟩
abbrev cX10_twice : ByteArray := prog_1_method_49_code
def yX10_twice : MethodName := ⟨RX10, "twice", "()I"⟩
abbrev cX10_twiceAt : ByteArray := prog_1_method_50_code
def yX10_twiceAt : MethodName := ⟨RX10, "twiceAt", "(I)I"⟩
abbrev cX10_fits : ByteArray := prog_1_method_51_code
def yX10_fits : MethodName := ⟨RX10, "fits", "(III)I"⟩
abbrev cX10_isPiece : ByteArray := prog_1_method_52_code
def yX10_isPiece : MethodName := ⟨RX10, "isPiece", "(LHollowWall$Tray;I)Z"⟩
abbrev cX10_fitsFrom : ByteArray := prog_1_method_53_code
def yX10_fitsFrom : MethodName := ⟨RX10, "fitsFrom", "(LHollowWall$Tray;II)Z"⟩
abbrev cX10_isCount : ByteArray := prog_1_method_54_code
def yX10_isCount : MethodName := ⟨RX10, "isCount", "(II)Z"⟩
abbrev cX10_countBehind : ByteArray := prog_1_method_55_code
def yX10_countBehind : MethodName := ⟨RX10, "countBehind", "(II)I"⟩
abbrev cX10_both : ByteArray := prog_1_method_56_code
def yX10_both : MethodName := ⟨RX10, "both", "(IIII)I"⟩
abbrev cX10_join : ByteArray := prog_1_method_57_code
def yX10_join : MethodName := ⟨RX10, "join", "(III)I"⟩
abbrev cX10_years : ByteArray := prog_1_method_58_code
def yX10_years : MethodName := ⟨RX10, "years", "()I"⟩
abbrev cX10_against : ByteArray := prog_1_method_59_code
def yX10_against : MethodName := ⟨RX10, "against", "()I"⟩
abbrev cX10_dated : ByteArray := prog_1_method_60_code
def yX10_dated : MethodName := ⟨RX10, "dated", "(II)I"⟩
abbrev cX10_hammer : ByteArray := prog_1_method_61_code
def yX10_hammer : MethodName := ⟨RX10, "hammer", "(I)Z"⟩
abbrev cX10_canWalk : ByteArray := prog_1_method_62_code
def yX10_canWalk : MethodName := ⟨RX10, "canWalk", "()Z"⟩
abbrev cX10_walk : ByteArray := prog_1_method_63_code
def yX10_walk : MethodName := ⟨RX10, "walk", "(II)I"⟩
abbrev cX10_walked : ByteArray := prog_1_method_64_code
def yX10_walked : MethodName := ⟨RX10, "walked", "(I)I"⟩
abbrev cX10_odds : ByteArray := prog_1_method_65_code
def yX10_odds : MethodName := ⟨RX10, "odds", "(III)Z"⟩
abbrev cX10_isAllTrue : ByteArray := prog_1_method_66_code
def yX10_isAllTrue : MethodName := ⟨RX10, "isAllTrue", "([I)Z"⟩
abbrev cX10_mark : ByteArray := prog_1_method_67_code
def yX10_mark : MethodName := ⟨RX10, "mark", "()I"⟩
abbrev cX10_back : ByteArray := prog_1_method_68_code
def yX10_back : MethodName := ⟨RX10, "back", "()I"⟩
def RX11 : String := "HollowWallModel"
def TX11 : u_T := fun k => match k with
  | 0 => ("HollowWallModel", "status", "I", false)
  | 1 => ("HollowWallModel", "thrown", "I", false)
  | 2 => ("HollowWallModel", "above", "J", false)
  | 3 => ("HollowWallModel", "under", "J", false)
  | 4 => ("HollowWallModel", "traySort", "[I", true)
  | 5 => ("HollowWallModel", "trayMany", "[I", true)
  | 6 => ("HollowWallModel", "numbers", "[J", true)
  | 7 => ("HollowWallModel", "tape", "[B", true)
  | 8 => ("HollowWallModel", "taped", "I", false)
  | 9 => ("HollowWallModel", "textEnd", "I", false)
  | 10 => ("HollowWallModel", "faultKind", "I", false)
  | 11 => ("HollowWallModel", "faultAt", "I", false)
  | 12 => ("HollowWallModel", "bad", "I", false)
  | 13 => ("HollowWallModel", "badAt", "I", false)
  | 14 => ("HollowWallModel", "token", "I", false)
  | 15 => ("HollowWallModel", "at", "I", false)
  | 16 => ("HollowWallModel", "behind", "I", false)
  | 17 => ("HollowWallModel", "number", "I", false)
  | 18 => ("HollowWallModel", "letters", "I", false)
  | 19 => ("HollowWallModel", "word", "J", false)
  | 20 => ("HollowWallModel", "c", "[I", true)
  | 21 => ("HollowWallModel", "kept", "[I", true)
  | 22 => ("HollowWallModel", "words", "[J", true)
  | 23 => ("HollowWallModel", "markMany", "I", false)
  | 24 => ("HollowWallModel", "counts", "[I", true)
  | 25 => ("HollowWallModel", "fore", "[I", true)
  | 26 => ("HollowWallModel", "aft", "[I", true)
  | 27 => ("HollowWallModel", "slips", "[I", true)
  | 28 => ("HollowWallModel", "waysTo", "[J", true)
  | 29 => ("HollowWallModel", "leastCost", "I", false)
  | 30 => ("HollowWallModel", "toldAt", "[I", true)
  | 31 => ("HollowWallModel", "toldBy", "[I", true)
  | 32 => ("HollowWallModel", "toldMany", "I", false)
  | 33 => ("HollowWallModel", "toldFirst", "I", false)
  | 34 => ("HollowWallModel", "newSteps", "I", false)
  | 35 => ("HollowWallModel", "without", "[J", true)
  | 36 => ("HollowWallModel", "waysFrom", "[J", true)
  | 37 => ("HollowWallModel", "hollow", "[Z", true)
  | 38 => ("HollowWallModel", "knocks", "[I", true)
  | 39 => ("HollowWallModel", "readingCount", "[I", true)
  | 40 => ("HollowWallModel", "readings", "I", false)
  | 41 => ("HollowWallModel", "yearOf", "[I", true)
  | 42 => ("HollowWallModel", "longest", "[I", true)
  | 43 => ("HollowWallModel", "random", "I", false)
  | 44 => ("HollowWallModel", "done", "I", false)
  | 45 => ("HollowWallModel", "knocked", "I", false)
  | 46 => ("HollowWallModel", "misheard", "I", false)
  | 47 => ("HollowWallModel", "notes", "I", false)
  | 48 => ("HollowWallModel", "heard", "I", false)
  | 49 => ("HollowWallModel", "leftOver", "I", false)
  | 50 => ("HollowWallModel", "isOver", "Z", false)
  | 51 => ("HollowWallModel", "hasWalked", "Z", false)
  | _ => ("HollowWallModel", "walkedLast", "[I", true)
def tyX11 : Nat → FieldType := fun k => match k with
  | 0 => .int
  | 1 => .int
  | 2 => .long
  | 3 => .long
  | 4 => .array .int
  | 5 => .array .int
  | 6 => .array .long
  | 7 => .array .byte
  | 8 => .int
  | 9 => .int
  | 10 => .int
  | 11 => .int
  | 12 => .int
  | 13 => .int
  | 14 => .int
  | 15 => .int
  | 16 => .int
  | 17 => .int
  | 18 => .int
  | 19 => .long
  | 20 => .array .int
  | 21 => .array .int
  | 22 => .array .long
  | 23 => .int
  | 24 => .array .int
  | 25 => .array .int
  | 26 => .array .int
  | 27 => .array .int
  | 28 => .array .long
  | 29 => .int
  | 30 => .array .int
  | 31 => .array .int
  | 32 => .int
  | 33 => .int
  | 34 => .int
  | 35 => .array .long
  | 36 => .array .long
  | 37 => .array .boolean
  | 38 => .array .int
  | 39 => .array .int
  | 40 => .int
  | 41 => .array .int
  | 42 => .array .int
  | 43 => .int
  | 44 => .int
  | 45 => .int
  | 46 => .int
  | 47 => .int
  | 48 => .int
  | 49 => .int
  | 50 => .boolean
  | 51 => .boolean
  | _ => .array .int
abbrev wsX110 : List Cond := u_ws RX11 TX11 53
theorem nmX11 : ∀ a, a < 53 → ∀ b, b < 53 → a ≠ b → (TX11 a).2.1 ≠ (TX11 b).2.1 := by decide +kernel
theorem tyX11_ok : ∀ k, k < 53 → parseFieldDescriptor (TX11 k).2.2.1 = some (tyX11 k) := by decide +kernel
abbrev cX11_init : ByteArray := prog_13_method_1_code
def yX11_init : MethodName := ⟨RX11, "<init>", "()V"⟩
abbrev cX11_status : ByteArray := prog_13_method_3_code
def yX11_status : MethodName := ⟨RX11, "status", "()I"⟩
abbrev cX11_top : ByteArray := prog_13_method_4_code
def yX11_top : MethodName := ⟨RX11, "top", "()J"⟩
abbrev cX11_bottom : ByteArray := prog_13_method_5_code
def yX11_bottom : MethodName := ⟨RX11, "bottom", "()J"⟩
abbrev cX11_refuse : ByteArray := prog_13_method_6_code
def yX11_refuse : MethodName := ⟨RX11, "refuse", "(I)I"⟩
abbrev cX11_no : ByteArray := prog_13_method_7_code
def yX11_no : MethodName := ⟨RX11, "no", "(I)Z"⟩
abbrev cX11_isIn : ByteArray := prog_13_method_8_code
def yX11_isIn : MethodName := ⟨RX11, "isIn", "(JJJ)Z"⟩
abbrev cX11_fraction : ByteArray := prog_13_method_9_code
def yX11_fraction : MethodName := ⟨RX11, "fraction", "(JJ)Z"⟩
abbrev cX11_cut : ByteArray := prog_13_method_10_code
def yX11_cut : MethodName := ⟨RX11, "cut", "(IJ)J"⟩
abbrev cX11_tray : ByteArray := prog_13_method_11_code
def yX11_tray : MethodName := ⟨RX11, "tray", "(III)Z"⟩
abbrev cX11_trayed : ByteArray := prog_13_method_12_code
def yX11_trayed : MethodName := ⟨RX11, "trayed", "(I)I"⟩
abbrev cX11_placed : ByteArray := prog_13_method_13_code
def yX11_placed : MethodName := ⟨RX11, "placed", "(II)I"⟩
abbrev cX11_write : ByteArray := prog_13_method_14_code
def yX11_write : MethodName := ⟨RX11, "write", "(IIJ)Z"⟩
abbrev cX11_read : ByteArray := prog_13_method_15_code
def yX11_read : MethodName := ⟨RX11, "read", "(II)J"⟩
abbrev cX11_pour : ByteArray := prog_13_method_16_code
def yX11_pour : MethodName := ⟨RX11, "pour", "(IIIII)Z"⟩
abbrev cX11_numberOf : ByteArray := prog_13_method_17_code
def yX11_numberOf : MethodName := ⟨RX11, "numberOf", "(II)J"⟩
abbrev cX11_isTray : ByteArray := prog_13_method_18_code
def yX11_isTray : MethodName := ⟨RX11, "isTray", "(I)Z"⟩
abbrev cX11_look2 : ByteArray := prog_13_method_19_code
def yX11_look2 : MethodName := ⟨RX11, "look2", "(I)I"⟩
abbrev cX11_isLetter : ByteArray := prog_13_method_20_code
def yX11_isLetter : MethodName := ⟨RX11, "isLetter", "(I)Z"⟩
abbrev cX11_isDigit : ByteArray := prog_13_method_21_code
def yX11_isDigit : MethodName := ⟨RX11, "isDigit", "(I)Z"⟩
abbrev cX11_isSignByte : ByteArray := prog_13_method_22_code
def yX11_isSignByte : MethodName := ⟨RX11, "isSignByte", "(I)Z"⟩
abbrev cX11_next : ByteArray := prog_13_method_23_code
def yX11_next : MethodName := ⟨RX11, "next", "()V"⟩
abbrev cX11_isSign : ByteArray := prog_13_method_24_code
def yX11_isSign : MethodName := ⟨RX11, "isSign", "(I)Z"⟩
abbrev cX11_spelled : ByteArray := prog_13_method_25_code
def yX11_spelled : MethodName := ⟨RX11, "spelled", "(IIIIII)J"⟩
abbrev cX11_isWord : ByteArray := prog_13_method_26_code
def yX11_isWord : MethodName := ⟨RX11, "isWord", "(J)Z"⟩
abbrev cX11_isOath : ByteArray := prog_13_method_27_code
def yX11_isOath : MethodName := ⟨RX11, "isOath", "()Z"⟩
abbrev cX11_isFrom : ByteArray := prog_13_method_28_code
def yX11_isFrom : MethodName := ⟨RX11, "isFrom", "()Z"⟩
abbrev cX11_isCourse : ByteArray := prog_13_method_29_code
def yX11_isCourse : MethodName := ⟨RX11, "isCourse", "()Z"⟩
abbrev cX11_isMason : ByteArray := prog_13_method_30_code
def yX11_isMason : MethodName := ⟨RX11, "isMason", "()Z"⟩
abbrev cX11_isLays : ByteArray := prog_13_method_31_code
def yX11_isLays : MethodName := ⟨RX11, "isLays", "()Z"⟩
abbrev cX11_isCosts : ByteArray := prog_13_method_32_code
def yX11_isCosts : MethodName := ⟨RX11, "isCosts", "()Z"⟩
abbrev cX11_isSlip : ByteArray := prog_13_method_33_code
def yX11_isSlip : MethodName := ⟨RX11, "isSlip", "()Z"⟩
abbrev cX11_isAt : ByteArray := prog_13_method_34_code
def yX11_isAt : MethodName := ⟨RX11, "isAt", "()Z"⟩
abbrev cX11_isBy : ByteArray := prog_13_method_35_code
def yX11_isBy : MethodName := ⟨RX11, "isBy", "()Z"⟩
abbrev cX11_isFind : ByteArray := prog_13_method_36_code
def yX11_isFind : MethodName := ⟨RX11, "isFind", "()Z"⟩
abbrev cX11_isYear : ByteArray := prog_13_method_37_code
def yX11_isYear : MethodName := ⟨RX11, "isYear", "()Z"⟩
abbrev cX11_stepWord : ByteArray := prog_13_method_38_code
def yX11_stepWord : MethodName := ⟨RX11, "stepWord", "()I"⟩
abbrev cX11_testWord : ByteArray := prog_13_method_39_code
def yX11_testWord : MethodName := ⟨RX11, "testWord", "()I"⟩
abbrev cX11_isEnd : ByteArray := prog_13_method_40_code
def yX11_isEnd : MethodName := ⟨RX11, "isEnd", "()Z"⟩
abbrev cX11_isKept : ByteArray := prog_13_method_41_code
def yX11_isKept : MethodName := ⟨RX11, "isKept", "()Z"⟩
abbrev cX11_fail : ByteArray := prog_13_method_42_code
def yX11_fail : MethodName := ⟨RX11, "fail", "(II)V"⟩
abbrev cX11_wrongToken : ByteArray := prog_13_method_43_code
def yX11_wrongToken : MethodName := ⟨RX11, "wrongToken", "()V"⟩
abbrev cX11_must : ByteArray := prog_13_method_44_code
def yX11_must : MethodName := ⟨RX11, "must", "(Z)V"⟩
abbrev cX11_count : ByteArray := prog_13_method_45_code
def yX11_count : MethodName := ⟨RX11, "count", "(II)I"⟩
abbrev cX11_feed : ByteArray := prog_13_method_46_code
def yX11_feed : MethodName := ⟨RX11, "feed", "(IIIII)I"⟩
abbrev cX11_lay : ByteArray := prog_13_method_47_code
def yX11_lay : MethodName := ⟨RX11, "lay", "(I)V"⟩
abbrev cX11_opens : ByteArray := prog_13_method_48_code
def yX11_opens : MethodName := ⟨RX11, "opens", "(II)Z"⟩
abbrev cX11_isWell : ByteArray := prog_13_method_49_code
def yX11_isWell : MethodName := ⟨RX11, "isWell", "()Z"⟩
abbrev cX11_fault : ByteArray := prog_13_method_50_code
def yX11_fault : MethodName := ⟨RX11, "fault", "(I)I"⟩
abbrev cX11_stonesOf : ByteArray := prog_13_method_51_code
def yX11_stonesOf : MethodName := ⟨RX11, "stonesOf", "(I)I"⟩
abbrev cX11_readCourse : ByteArray := prog_13_method_52_code
def yX11_readCourse : MethodName := ⟨RX11, "readCourse", "()V"⟩
abbrev cX11_readMason : ByteArray := prog_13_method_53_code
def yX11_readMason : MethodName := ⟨RX11, "readMason", "()V"⟩
abbrev cX11_readSlip : ByteArray := prog_13_method_54_code
def yX11_readSlip : MethodName := ⟨RX11, "readSlip", "()V"⟩
abbrev cX11_readFind : ByteArray := prog_13_method_55_code
def yX11_readFind : MethodName := ⟨RX11, "readFind", "()V"⟩
abbrev cX11_wall : ByteArray := prog_13_method_56_code
def yX11_wall : MethodName := ⟨RX11, "wall", "(I)I"⟩
abbrev cX11_readTest : ByteArray := prog_13_method_57_code
def yX11_readTest : MethodName := ⟨RX11, "readTest", "(I)V"⟩
abbrev cX11_readStep : ByteArray := prog_13_method_58_code
def yX11_readStep : MethodName := ⟨RX11, "readStep", "(I)V"⟩
abbrev cX11_round : ByteArray := prog_13_method_59_code
def yX11_round : MethodName := ⟨RX11, "round", "(I)I"⟩
abbrev cX11_stones : ByteArray := prog_13_method_60_code
def yX11_stones : MethodName := ⟨RX11, "stones", "()I"⟩
abbrev cX11_isStone : ByteArray := prog_13_method_61_code
def yX11_isStone : MethodName := ⟨RX11, "isStone", "(I)Z"⟩
abbrev cX11_courseOf : ByteArray := prog_13_method_62_code
def yX11_courseOf : MethodName := ⟨RX11, "courseOf", "(I)I"⟩
abbrev cX11_inCourse : ByteArray := prog_13_method_63_code
def yX11_inCourse : MethodName := ⟨RX11, "inCourse", "(I)I"⟩
abbrev cX11_beginOf : ByteArray := prog_13_method_64_code
def yX11_beginOf : MethodName := ⟨RX11, "beginOf", "(I)I"⟩
abbrev cX11_masonOf : ByteArray := prog_13_method_65_code
def yX11_masonOf : MethodName := ⟨RX11, "masonOf", "(I)I"⟩
abbrev cX11_laidBy : ByteArray := prog_13_method_66_code
def yX11_laidBy : MethodName := ⟨RX11, "laidBy", "(I)I"⟩
abbrev cX11_after : ByteArray := prog_13_method_67_code
def yX11_after : MethodName := ⟨RX11, "after", "(II)I"⟩
abbrev cX11_countAll : ByteArray := prog_13_method_68_code
def yX11_countAll : MethodName := ⟨RX11, "countAll", "(Z)V"⟩
abbrev cX11_trueCount : ByteArray := prog_13_method_69_code
def yX11_trueCount : MethodName := ⟨RX11, "trueCount", "(I)I"⟩
abbrev cX11_swornCount : ByteArray := prog_13_method_70_code
def yX11_swornCount : MethodName := ⟨RX11, "swornCount", "(I)I"⟩
abbrev cX11_isHollow : ByteArray := prog_13_method_71_code
def yX11_isHollow : MethodName := ⟨RX11, "isHollow", "(I)Z"⟩
abbrev cX11_noted : ByteArray := prog_13_method_72_code
def yX11_noted : MethodName := ⟨RX11, "noted", "()I"⟩
abbrev cX11_many : ByteArray := prog_13_method_73_code
def yX11_many : MethodName := ⟨RX11, "many", "(I)I"⟩
abbrev cX11_findAt : ByteArray := prog_13_method_74_code
def yX11_findAt : MethodName := ⟨RX11, "findAt", "(I)I"⟩
abbrev cX11_stone : ByteArray := prog_13_method_75_code
def yX11_stone : MethodName := ⟨RX11, "stone", "(II)I"⟩
abbrev cX11_mason : ByteArray := prog_13_method_76_code
def yX11_mason : MethodName := ⟨RX11, "mason", "(II)I"⟩
abbrev cX11_hollows : ByteArray := prog_13_method_77_code
def yX11_hollows : MethodName := ⟨RX11, "hollows", "(II)I"⟩
abbrev cX11_hollowAt : ByteArray := prog_13_method_78_code
def yX11_hollowAt : MethodName := ⟨RX11, "hollowAt", "(I)I"⟩
abbrev cX11_nextHollow : ByteArray := prog_13_method_79_code
def yX11_nextHollow : MethodName := ⟨RX11, "nextHollow", "(I)I"⟩
abbrev cX11_gap : ByteArray := prog_13_method_80_code
def yX11_gap : MethodName := ⟨RX11, "gap", "()I"⟩
abbrev cX11_shift : ByteArray := prog_13_method_81_code
def yX11_shift : MethodName := ⟨RX11, "shift", "(I)I"⟩
abbrev cX11_price : ByteArray := prog_13_method_82_code
def yX11_price : MethodName := ⟨RX11, "price", "()I"⟩
abbrev cX11_dearest : ByteArray := prog_13_method_83_code
def yX11_dearest : MethodName := ⟨RX11, "dearest", "()I"⟩
abbrev cX11_astray : ByteArray := prog_13_method_84_code
def yX11_astray : MethodName := ⟨RX11, "astray", "()I"⟩
abbrev cX11_knock : ByteArray := prog_13_method_85_code
def yX11_knock : MethodName := ⟨RX11, "knock", "(I)I"⟩
abbrev cX11_note : ByteArray := prog_13_method_86_code
def yX11_note : MethodName := ⟨RX11, "note", "(II)Z"⟩
abbrev cX11_clear : ByteArray := prog_13_method_87_code
def yX11_clear : MethodName := ⟨RX11, "clear", "()I"⟩
abbrev cX11_wrong : ByteArray := prog_13_method_88_code
def yX11_wrong : MethodName := ⟨RX11, "wrong", "()I"⟩
abbrev cX11_costAt : ByteArray := prog_13_method_89_code
def yX11_costAt : MethodName := ⟨RX11, "costAt", "(I)I"⟩
abbrev cX11_suits : ByteArray := prog_13_method_90_code
def yX11_suits : MethodName := ⟨RX11, "suits", "(II)Z"⟩
abbrev cX11_cell : ByteArray := prog_13_method_91_code
def yX11_cell : MethodName := ⟨RX11, "cell", "(II)I"⟩
abbrev cX11_step : ByteArray := prog_13_method_92_code
def yX11_step : MethodName := ⟨RX11, "step", "(III)I"⟩
abbrev cX11_explains : ByteArray := prog_13_method_93_code
def yX11_explains : MethodName := ⟨RX11, "explains", "(Z)Z"⟩
abbrev cX11_isOn : ByteArray := prog_13_method_94_code
def yX11_isOn : MethodName := ⟨RX11, "isOn", "(II)Z"⟩
abbrev cX11_allWays : ByteArray := prog_13_method_95_code
def yX11_allWays : MethodName := ⟨RX11, "allWays", "(Z)J"⟩
abbrev cX11_least : ByteArray := prog_13_method_96_code
def yX11_least : MethodName := ⟨RX11, "least", "(Z)I"⟩
abbrev cX11_ways : ByteArray := prog_13_method_97_code
def yX11_ways : MethodName := ⟨RX11, "ways", "(Z)I"⟩
abbrev cX11_explain : ByteArray := prog_13_method_98_code
def yX11_explain : MethodName := ⟨RX11, "explain", "(Z)I"⟩
abbrev cX11_slipAt : ByteArray := prog_13_method_99_code
def yX11_slipAt : MethodName := ⟨RX11, "slipAt", "(II)I"⟩
abbrev cX11_firstCount : ByteArray := prog_13_method_100_code
def yX11_firstCount : MethodName := ⟨RX11, "firstCount", "()I"⟩
abbrev cX11_sure : ByteArray := prog_13_method_101_code
def yX11_sure : MethodName := ⟨RX11, "sure", "(IZ)I"⟩
abbrev cX11_waysWithout : ByteArray := prog_13_method_102_code
def yX11_waysWithout : MethodName := ⟨RX11, "waysWithout", "(I)J"⟩
abbrev cX11_blame : ByteArray := prog_13_method_103_code
def yX11_blame : MethodName := ⟨RX11, "blame", "(IZ)Z"⟩
abbrev cX11_isOathFor : ByteArray := prog_13_method_104_code
def yX11_isOathFor : MethodName := ⟨RX11, "isOathFor", "(II)Z"⟩
abbrev cX11_oaths : ByteArray := prog_13_method_105_code
def yX11_oaths : MethodName := ⟨RX11, "oaths", "()I"⟩
abbrev cX11_oathAt : ByteArray := prog_13_method_106_code
def yX11_oathAt : MethodName := ⟨RX11, "oathAt", "(II)I"⟩
abbrev cX11_countOn : ByteArray := prog_13_method_107_code
def yX11_countOn : MethodName := ⟨RX11, "countOn", "()V"⟩
abbrev cX11_bestKnock : ByteArray := prog_13_method_108_code
def yX11_bestKnock : MethodName := ⟨RX11, "bestKnock", "(Z)I"⟩
abbrev cX11_readFrom : ByteArray := prog_13_method_109_code
def yX11_readFrom : MethodName := ⟨RX11, "readFrom", "(I)V"⟩
abbrev cX11_heardBy : ByteArray := prog_13_method_110_code
def yX11_heardBy : MethodName := ⟨RX11, "heardBy", "(II)I"⟩
abbrev cX11_knocksBy : ByteArray := prog_13_method_111_code
def yX11_knocksBy : MethodName := ⟨RX11, "knocksBy", "(II)I"⟩
abbrev cX11_telling : ByteArray := prog_13_method_112_code
def yX11_telling : MethodName := ⟨RX11, "telling", "(ZI)I"⟩
abbrev cX11_isTwice : ByteArray := prog_13_method_113_code
def yX11_isTwice : MethodName := ⟨RX11, "isTwice", "(I)Z"⟩
abbrev cX11_twice : ByteArray := prog_13_method_114_code
def yX11_twice : MethodName := ⟨RX11, "twice", "()I"⟩
abbrev cX11_twiceAt : ByteArray := prog_13_method_115_code
def yX11_twiceAt : MethodName := ⟨RX11, "twiceAt", "(I)I"⟩
abbrev cX11_fitsAt : ByteArray := prog_13_method_116_code
def yX11_fitsAt : MethodName := ⟨RX11, "fitsAt", "(III)Z"⟩
abbrev cX11_fits : ByteArray := prog_13_method_117_code
def yX11_fits : MethodName := ⟨RX11, "fits", "(III)I"⟩
abbrev cX11_both : ByteArray := prog_13_method_118_code
def yX11_both : MethodName := ⟨RX11, "both", "(IIII)I"⟩
abbrev cX11_join : ByteArray := prog_13_method_119_code
def yX11_join : MethodName := ⟨RX11, "join", "(III)I"⟩
abbrev cX11_yearsFound : ByteArray := prog_13_method_120_code
def yX11_yearsFound : MethodName := ⟨RX11, "yearsFound", "()I"⟩
abbrev cX11_years : ByteArray := prog_13_method_121_code
def yX11_years : MethodName := ⟨RX11, "years", "()I"⟩
abbrev cX11_against : ByteArray := prog_13_method_122_code
def yX11_against : MethodName := ⟨RX11, "against", "()I"⟩
abbrev cX11_dated : ByteArray := prog_13_method_123_code
def yX11_dated : MethodName := ⟨RX11, "dated", "(II)I"⟩
abbrev cX11_hammer : ByteArray := prog_13_method_124_code
def yX11_hammer : MethodName := ⟨RX11, "hammer", "(I)Z"⟩
abbrev cX11_draw : ByteArray := prog_13_method_125_code
def yX11_draw : MethodName := ⟨RX11, "draw", "()I"⟩
abbrev cX11_turns : ByteArray := prog_13_method_126_code
def yX11_turns : MethodName := ⟨RX11, "turns", "()V"⟩
abbrev cX11_doPlain : ByteArray := prog_13_method_127_code
def yX11_doPlain : MethodName := ⟨RX11, "doPlain", "(II)V"⟩
abbrev cX11_isSo : ByteArray := prog_13_method_128_code
def yX11_isSo : MethodName := ⟨RX11, "isSo", "(I)Z"⟩
abbrev cX11_doOne : ByteArray := prog_13_method_129_code
def yX11_doOne : MethodName := ⟨RX11, "doOne", "(II)V"⟩
abbrev cX11_doAll : ByteArray := prog_13_method_130_code
def yX11_doAll : MethodName := ⟨RX11, "doAll", "(III)V"⟩
abbrev cX11_walks : ByteArray := prog_13_method_131_code
def yX11_walks : MethodName := ⟨RX11, "walks", "(II)V"⟩
abbrev cX11_isNoWalk : ByteArray := prog_13_method_132_code
def yX11_isNoWalk : MethodName := ⟨RX11, "isNoWalk", "()Z"⟩
abbrev cX11_walk : ByteArray := prog_13_method_133_code
def yX11_walk : MethodName := ⟨RX11, "walk", "(II)I"⟩
abbrev cX11_walked : ByteArray := prog_13_method_134_code
def yX11_walked : MethodName := ⟨RX11, "walked", "(I)I"⟩
abbrev cX11_isAllTrue : ByteArray := prog_13_method_135_code
def yX11_isAllTrue : MethodName := ⟨RX11, "isAllTrue", "()Z"⟩
abbrev cX11_odds : ByteArray := prog_13_method_136_code
def yX11_odds : MethodName := ⟨RX11, "odds", "(III)Z"⟩
abbrev cX11_copy : ByteArray := prog_13_method_137_code
def yX11_copy : MethodName := ⟨RX11, "copy", "(II)V"⟩
abbrev cX11_mark : ByteArray := prog_13_method_138_code
def yX11_mark : MethodName := ⟨RX11, "mark", "()I"⟩
abbrev cX11_back : ByteArray := prog_13_method_139_code
def yX11_back : MethodName := ⟨RX11, "back", "()I"⟩
def RJx145de : String := "java/io/Serializable"
def RJx9f9b0 : String := "java/lang/CharSequence"
def RJxb160c : String := "java/lang/Comparable"
def RJ9 : String := "java/lang/Math"
abbrev cJ9_abs_067f4 : ByteArray := prog_14_method_61_code
def yJ9_abs_067f4 : MethodName := ⟨RJ9, "abs", "(J)J"⟩
abbrev cJ9_max_7cf53 : ByteArray := prog_14_method_65_code
def yJ9_max_7cf53 : MethodName := ⟨RJ9, "max", "(II)I"⟩
abbrev cJ9_max_f86c9 : ByteArray := prog_14_method_66_code
def yJ9_max_f86c9 : MethodName := ⟨RJ9, "max", "(JJ)J"⟩
abbrev cJ9_min_7cf53 : ByteArray := prog_14_method_69_code
def yJ9_min_7cf53 : MethodName := ⟨RJ9, "min", "(II)I"⟩
abbrev cJ9_min_f86c9 : ByteArray := prog_14_method_70_code
def yJ9_min_f86c9 : MethodName := ⟨RJ9, "min", "(JJ)J"⟩
def RJ0 : String := "java/lang/String"
abbrev cJ0_length_8abf5 : ByteArray := prog_15_method_54_code
def yJ0_length_8abf5 : MethodName := ⟨RJ0, "length", "()I"⟩
abbrev cJ0_charAt_5068e : ByteArray := prog_15_method_56_code
def yJ0_charAt_5068e : MethodName := ⟨RJ0, "charAt", "(I)C"⟩
abbrev cJ0_coder_7d493 : ByteArray := prog_15_method_152_code
def yJ0_coder_7d493 : MethodName := ⟨RJ0, "coder", "()B"⟩
abbrev cJ0_isLatin1_aae02 : ByteArray := prog_15_method_154_code
def yJ0_isLatin1_aae02 : MethodName := ⟨RJ0, "isLatin1", "()Z"⟩
abbrev cJ0_checkIndex_df160 : ByteArray := prog_15_method_155_code
def yJ0_checkIndex_df160 : MethodName := ⟨RJ0, "checkIndex", "(II)V"⟩
def RJ1 : String := "java/lang/StringLatin1"
abbrev cJ1_charAt_3b067 : ByteArray := prog_16_method_2_code
def yJ1_charAt_3b067 : MethodName := ⟨RJ1, "charAt", "([BI)C"⟩
def RJ2 : String := "java/lang/StringUTF16"
abbrev cJ2_getChar_3b067 : ByteArray := prog_17_method_5_code
def yJ2_getChar_3b067 : MethodName := ⟨RJ2, "getChar", "([BI)C"⟩
abbrev cJ2_length_9d52b : ByteArray := prog_17_method_6_code
def yJ2_length_9d52b : MethodName := ⟨RJ2, "length", "([B)I"⟩
abbrev cJ2_charAt_3b067 : ByteArray := prog_17_method_83_code
def yJ2_charAt_3b067 : MethodName := ⟨RJ2, "charAt", "([BI)C"⟩
abbrev cJ2_checkIndex_2214a : ByteArray := prog_17_method_91_code
def yJ2_checkIndex_2214a : MethodName := ⟨RJ2, "checkIndex", "(I[B)V"⟩
def RJ10 : String := "java/lang/System"
def RJxfd54e : String := "java/lang/constant/Constable"
def RJx3cf43 : String := "java/lang/constant/ConstantDesc"
def RJ7 : String := "java/util/Arrays"
abbrev cJ7_fill_d0a16 : ByteArray := prog_19_method_101_code
def yJ7_fill_d0a16 : MethodName := ⟨RJ7, "fill", "([JJ)V"⟩
abbrev cJ7_fill_53178 : ByteArray := prog_19_method_103_code
def yJ7_fill_53178 : MethodName := ⟨RJ7, "fill", "([II)V"⟩
def RJ3 : String := "jdk/internal/util/Preconditions"
abbrev cJ3_checkIndex_8e157 : ByteArray := prog_20_method_11_code
def yJ3_checkIndex_8e157 : MethodName := ⟨RJ3, "checkIndex", "(IILjava/util/function/BiFunction;)I"⟩
def RL : String := "HollowWallLaw"
abbrev cL_law : ByteArray := code
def yL_law : MethodName := ⟨RL, "law", "([I)Z"⟩
abbrev vwCl : List vw_C := [(RX0, TX0, 14), (RX1, TX1, 6), (RX2, TX2, 3), (RX3, TX3, 5), (RX4, TX4, 6), (RX5, TX5, 10), (RX6, TX6, 4), (RX7, TX7, 12), (RX8, TX8, 19), (RX9, TX9, 4), (RX10, TX10, 19), (RX11, TX11, 53)]
end
section
-- 02.mach: an abstract machine: words, trees, what a step does. Values are (tag, payload): 0 an int (its code), 1 the int of the script's place, 2 any int, 3 a long (its code), 4 the long of the script's place, 5 any long, 6 a cell of the world, 7 null, 8 any reference, 9 the script, 10 the int of a place of the script and a number (place + 16 times its code).
abbrev qV : Type := Nat × Nat
/-- a cell: kind (below 100 an object of that class; 100 int[], 101 byte[], 102 boolean[], 103 long[], 200 + class an array of such objects, 300 int[][]), how many, contents -/
abbrev qC : Type := Nat × Nat × Lean.RArray qV
abbrev qE : Type := List (Nat × Nat)
abbrev qH : Type := Lean.RArray qC × Nat
abbrev qL : Type := List (Nat × qV)
/-- intervals, heap, cells made, slots made, pc, locals, stack -/
abbrev qF : Type := qE × qH × Nat × Nat × Nat × qL × List qV
abbrev qO : Type := qE × qH × Option qV
/-- an instruction: op, pc, variant, a, b, word, targets -/
abbrev qN : Type := Nat × Nat × Nat × Nat × Nat × Nat × List Nat
/-- a method: name, bytes, locals, type, class, kind (0 static, 1 <init>, 2 virtual), arguments, cells, slots, instructions -/
abbrev qM : Type := MethodName × ByteArray × Nat × Option FieldType × Nat × Nat × Nat × Nat × Nat × Lean.RArray qN
def qI (n : Nat) : Int32 := Int32.ofNat n
def qNn (x : Int32) : Nat := x.toUInt32.toNat
def qJ (n : Nat) : Int64 := Int64.ofNat n
def qMn (x : Int64) : Nat := x.toUInt64.toNat
theorem qI_N (x : Int32) : qI (qNn x) = x := by
  exact Int32.toBitVec.inj (by show BitVec.ofNat 32 x.toBitVec.toNat = x.toBitVec; simp)
theorem qJ_M (x : Int64) : qJ (qMn x) = x := by
  exact Int64.toBitVec.inj (by show BitVec.ofNat 64 x.toBitVec.toNat = x.toBitVec; simp)
/-- a number as a literal -/
noncomputable def q_fc {α : Type} (n : Nat) (k : Nat → α) : α := Nat.rec (motive := fun _ => α) (k 0) (fun m _ => k (Nat.succ m)) n
theorem q_fc_eq {α : Type} (n : Nat) (k : Nat → α) : q_fc n k = k n := by cases n <;> rfl
noncomputable def q_tl {α : Type} (v : α) (i : Nat) (f : Nat) : α → Nat → Nat → Lean.RArray α :=
  Nat.rec (motive := fun _ => α → Nat → Nat → Lean.RArray α) (fun a _ _ => .branch i (.leaf a) (.branch (i + 1) (.leaf v) (.leaf a)))
    (fun _ ih a lo hi => cond (Nat.ble hi (lo + 1)) (.leaf v) (q_fc ((lo + hi) / 2) fun m => cond (Nat.ble m i) (.branch m (.leaf a) (ih a m hi)) (.branch m (ih a lo m) (.leaf a)))) f
noncomputable def q_ts {α : Type} (v : α) (i : Nat) (t : Lean.RArray α) : Nat → Nat → Lean.RArray α :=
  Lean.RArray.rec (motive := fun _ => Nat → Nat → Lean.RArray α) (fun a lo hi => q_tl v i 12 a lo hi)
    (fun p l0 r0 l r lo hi => cond (Nat.ble p i) (.branch p l0 (r p hi)) (.branch p (l lo p) r0)) t
theorem q_get_leaf {α : Type} (a : α) (n : Nat) : (Lean.RArray.leaf a).get n = a := rfl
theorem q_get_branch {α : Type} (p : Nat) (l r : Lean.RArray α) (n : Nat) : (Lean.RArray.branch p l r).get n = if p ≤ n then r.get n else l.get n := by
  show (@Bool.rec (fun _ => α) (l.get n) (r.get n) (Nat.ble p n)) = _
  by_cases h : p ≤ n
  · rw [if_pos h, Nat.ble_eq_true_of_le h]
  · rw [if_neg h]
    have : Nat.ble p n = false := by
      cases hb : Nat.ble p n with
      | false => rfl
      | true => exact absurd (Nat.le_of_ble_eq_true hb) h
    rw [this]
theorem q_ble (a b : Nat) : Nat.ble a b = decide (a ≤ b) := by
  by_cases h : a ≤ b
  · rw [Nat.ble_eq_true_of_le h, decide_eq_true h]
  · cases hb : Nat.ble a b with
    | false => simp [h]
    | true => exact absurd (Nat.le_of_ble_eq_true hb) h
theorem q_tl_get {α : Type} (v : α) (i : Nat) : ∀ (f : Nat) (a : α) (lo hi j : Nat), lo ≤ i → i < hi → lo ≤ j → j < hi → (q_tl v i f a lo hi).get j = if j = i then v else a := by
  intro f
  induction f with
  | zero =>
    intro a lo hi j _ _ _ _
    show (Lean.RArray.branch i (.leaf a) (.branch (i + 1) (.leaf v) (.leaf a))).get j = _
    rw [q_get_branch, q_get_branch, q_get_leaf, q_get_leaf]
    by_cases h1 : i ≤ j <;> by_cases h2 : i + 1 ≤ j <;> by_cases h3 : j = i <;> simp [h1, h2, h3] <;> omega
  | succ f ih =>
    intro a lo hi j h1 h2 h3 h4
    show (cond (Nat.ble hi (lo + 1)) (.leaf v) (q_fc ((lo + hi) / 2) fun m => cond (Nat.ble m i) (.branch m (.leaf a) (q_tl v i f a m hi)) (.branch m (q_tl v i f a lo m) (.leaf a))) : Lean.RArray α).get j = _
    rw [q_fc_eq, q_ble, q_ble]
    by_cases hs : hi ≤ lo + 1
    · have e : j = i := by omega
      simp [hs, e]
    · by_cases hm : (lo + hi) / 2 ≤ i
      · simp only [hs, hm, decide_false, decide_true, cond_false, cond_true]
        rw [q_get_branch]
        by_cases hj : (lo + hi) / 2 ≤ j
        · rw [if_pos hj, ih _ _ _ _ hm h2 hj h4]
        · rw [if_neg hj, q_get_leaf, if_neg (by omega)]
      · simp only [hs, hm, decide_false, decide_true, cond_false, cond_true]
        rw [q_get_branch]
        by_cases hj : (lo + hi) / 2 ≤ j
        · rw [if_pos hj, q_get_leaf, if_neg (by omega)]
        · rw [if_neg hj, ih _ _ _ _ h1 (by omega) h3 (by omega)]
theorem q_ts_get {α : Type} (v : α) (i : Nat) (t : Lean.RArray α) : ∀ (lo hi j : Nat), lo ≤ i → i < hi → lo ≤ j → j < hi → (q_ts v i t lo hi).get j = if j = i then v else t.get j := by
  induction t with
  | leaf a =>
    intro lo hi j h1 h2 h3 h4
    show (q_tl v i 12 a lo hi).get j = _
    rw [q_tl_get v i 12 a lo hi j h1 h2 h3 h4, q_get_leaf]
  | branch p l r il ir =>
    intro lo hi j h1 h2 h3 h4
    show (cond (Nat.ble p i) (.branch p l (q_ts v i r p hi)) (.branch p (q_ts v i l lo p) r) : Lean.RArray α).get j = _
    rw [q_ble, q_get_branch p l r]
    by_cases hp : p ≤ i
    · simp only [hp, decide_true, cond_true]
      rw [q_get_branch]
      by_cases hj : p ≤ j
      · rw [if_pos hj, if_pos hj, ir _ _ _ hp h2 hj h4]
      · rw [if_neg hj, if_neg hj, if_neg (by omega)]
    · simp only [hp, decide_false, cond_false]
      rw [q_get_branch]
      by_cases hj : p ≤ j
      · rw [if_pos hj, if_pos hj, if_neg (by omega)]
      · rw [if_neg hj, if_neg hj, il _ _ _ h1 (by omega) h3 (by omega)]
/-- the words that go with a call, and those that go by themselves -/
def qWS : List Cond := lw_tbl.filter goodWord
def q_isSp : Cond → Bool
  | .methodLinkNest .. => true
  | .arrayOver _ => true
  | .stringRef .. => true
  | _ => false
def qSP : List Cond := lw_tbl.filter q_isSp
/-- values: kinds and categories -/
def q_knd (x : qV) : Nat := bif Nat.ble x.1 2 then 0 else bif Nat.ble x.1 5 then 1 else bif Nat.ble x.1 9 then 2 else bif Nat.beq x.1 10 then 0 else 9
def q_cat (x : qV) : Nat := bif Nat.beq (q_knd x) 1 then 2 else 1
def q_lg (lv : qL) (i : Nat) : Option qV := (lv.find? fun q => Nat.beq q.1 i).map (·.2)
noncomputable def q_nrm {β : Type} (l : qL) (k : qL → β) : β := List.rec (motive := fun _ => (qL → β) → β) (fun k => k []) (fun a _ ih k => ih fun t => k (a :: t)) l k
theorem q_nrm_eq {β : Type} (l : qL) (k : qL → β) : q_nrm l k = k l := by
  induction l generalizing k with
  | nil => rfl
  | cons a t ih => exact ih fun t => k (a :: t)
def q_ls1 (lv : qL) (i : Nat) (x : qV) : qL := (i, x) :: lv.filter (fun q => !(Nat.beq q.1 i) && !(Nat.beq (q.1 + 1) i && Nat.beq (q_cat q.2) 2))
def q_ls2 (lv : qL) (i : Nat) (x : qV) : qL := (i, x) :: lv.filter (fun q => !(Nat.beq q.1 i) && (!(Nat.beq q.1 (i + 1)) && !(Nat.beq (q.1 + 1) i && Nat.beq (q_cat q.2) 2)))
noncomputable def q_ls {β : Type} (lv : qL) (i : Nat) (x : qV) (k : qL → β) : β := q_nrm (bif Nat.beq (q_cat x) 2 then q_ls2 lv i x else q_ls1 lv i x) k
/-- intervals of the script's ints, moved by 2^31 -/
def q_eg (env : qE) (i : Nat) : Nat × Nat := (env[i]?).getD (0, 4294967295)
def qB (x : Int32) : Nat := (x.toInt + 2147483648).toNat
def q_iv (env : qE) (i lo hi : Nat) : qE := env.set i (lo, hi)
noncomputable def q_ife {β : Type} (env : qE) (i lo hi : Nat) (k : qE → β) : β := q_fc lo fun lo => q_fc hi fun hi => k (q_iv env i lo hi)
/-- numbers of the script's small intervals, one by one -/
def q_pts (lo : Nat) (n : Nat) : List Nat := Nat.rec (motive := fun _ => List Nat) [] (fun m ih => ih ++ [lo + m]) n
def q_cd (b : Nat) : Nat := (b + 2147483648) % 4294967296
def q_isPt (env : qE) (x : qV) : Bool := Nat.beq x.1 1 && Nat.ble (q_eg env x.2).2 ((q_eg env x.2).1 + 130)
def q_spl (env : qE) (x : qV) : List (qE × qV) := (q_pts (q_eg env x.2).1 ((q_eg env x.2).2 + 1 - (q_eg env x.2).1)).map fun b => (q_iv env x.2 b b, (0, q_cd b))
/-- compares: 0 =, 1 ≠, 2 <, 3 ≥, 4 >, 5 ≤ -/
def q_op (o : Nat) (x y : Int32) : Bool := match o with
  | 0 => decide (x = y)
  | 1 => !decide (x = y)
  | 2 => decide (x < y)
  | 3 => !decide (x < y)
  | 4 => decide (y < x)
  | _ => !decide (y < x)
/-- a place of the script against a number: where it may go, with the interval that it then has -/
def q_lt (env : qE) (i b : Nat) (t f : Bool) : List (Bool × qE) :=
  (bif Nat.blt (q_eg env i).1 b then [(t, q_iv env i (q_eg env i).1 (Nat.min (q_eg env i).2 (b - 1)))] else []) ++ (bif Nat.ble b (q_eg env i).2 then [(f, q_iv env i (Nat.max (q_eg env i).1 b) (q_eg env i).2)] else [])
def q_gt (env : qE) (i b : Nat) (t f : Bool) : List (Bool × qE) :=
  (bif Nat.blt b (q_eg env i).2 then [(t, q_iv env i (Nat.max (q_eg env i).1 (b + 1)) (q_eg env i).2)] else []) ++ (bif Nat.ble (q_eg env i).1 b then [(f, q_iv env i (q_eg env i).1 (Nat.min (q_eg env i).2 b))] else [])
def q_eq (env : qE) (i b : Nat) (t f : Bool) : List (Bool × qE) :=
  (bif Nat.ble (q_eg env i).1 b && Nat.ble b (q_eg env i).2 then [(t, q_iv env i b b)] else []) ++
    ((bif Nat.blt (q_eg env i).1 b then [(f, q_iv env i (q_eg env i).1 (Nat.min (q_eg env i).2 (b - 1)))] else []) ++
      (bif Nat.blt b (q_eg env i).2 then [(f, q_iv env i (Nat.max (q_eg env i).1 (b + 1)) (q_eg env i).2)] else []))
def q_cmpv (o : Nat) (env : qE) (i b : Nat) : List (Bool × qE) := match o with
  | 0 => q_eq env i b true false
  | 1 => q_eq env i b false true
  | 2 => q_lt env i b true false
  | 3 => q_lt env i b false true
  | 4 => q_gt env i b true false
  | _ => q_gt env i b false true
/-- the compare with its sides changed -/
def q_flip (o : Nat) : Nat := match o with
  | 0 => 0
  | 1 => 1
  | 2 => 4
  | 3 => 5
  | 4 => 2
  | _ => 3
/-- a place and a number against a number -/
def q_aff (o : Nat) (env : qE) (n b : Nat) : List (Bool × qE) :=
  bif decide (0 ≤ ((q_eg env (n % 16)).1 : Int) + (qI (n / 16)).toInt) && decide (((q_eg env (n % 16)).2 : Int) + (qI (n / 16)).toInt < 4294967296) && decide (0 ≤ (b : Int) - (qI (n / 16)).toInt) then q_cmpv o env (n % 16) ((b : Int) - (qI (n / 16)).toInt).toNat
  else [(true, env), (false, env)]
def q_cmp (o : Nat) (env : qE) (x y : qV) : List (Bool × qE) :=
  bif Nat.beq x.1 0 && Nat.beq y.1 0 then [(q_op o (qI x.2) (qI y.2), env)]
  else bif Nat.beq x.1 1 && Nat.beq y.1 0 then q_cmpv o env x.2 (qB (qI y.2))
  else bif Nat.beq x.1 0 && Nat.beq y.1 1 then q_cmpv (q_flip o) env y.2 (qB (qI x.2))
  else bif Nat.beq x.1 10 && Nat.beq y.1 0 then q_aff o env x.2 (qB (qI y.2))
  else bif Nat.beq x.1 0 && Nat.beq y.1 10 then q_aff (q_flip o) env y.2 (qB (qI x.2))
  else [(true, env), (false, env)]
end
section
-- 03.step: what each instruction does in the abstract machine
abbrev q_pc (e : qN) : Nat := e.2.1
abbrev q_v (e : qN) : Nat := e.2.2.1
abbrev q_a (e : qN) : Nat := e.2.2.2.1
abbrev q_b (e : qN) : Nat := e.2.2.2.2.1
abbrev q_w (e : qN) : Nat := e.2.2.2.2.2.1
abbrev q_t (e : qN) : List Nat := e.2.2.2.2.2.2
def q_sgn (a b : Nat) : Int := match b with
  | 0 => (a : Int)
  | _ => -(a : Int)
def q_off (pc t : Nat) : Int := (t : Int) - (pc : Int)
theorem q_off_eq (pc t : Nat) : (pc : Int) + q_off pc t = (t : Int) := by unfold q_off; omega
def q_fin4 (n : Nat) : Fin 4 := ⟨n % 4, Nat.mod_lt _ (by decide)⟩
def q_fin2 (n : Nat) : Fin 2 := ⟨n % 2, Nat.mod_lt _ (by decide)⟩
def q_aty (v : Nat) : ArrayType := match v with
  | 0 => .int
  | 1 => .byte
  | 2 => .boolean
  | _ => .long
def q_ins0 (v a b : Nat) : Instr × Nat := match v with
  | 0 => (.iconst (q_sgn a b), 1)
  | 1 => (.bipush (q_sgn a b), 2)
  | 2 => (.sipush (q_sgn a b), 3)
  | 3 => (.lconst (q_fin2 a), 1)
  | 4 => (.ldc a, 2)
  | 5 => (.ldc_w a, 3)
  | 6 => (.ldc2_w a, 3)
  | 7 => (.ldc a, 2)
  | _ => (.aconst_null, 1)
def q_ins1 (v a : Nat) : Instr × Nat := match v with
  | 0 => (.iload_n (q_fin4 a), 1)
  | 1 => (.iload a, 2)
  | 2 => (.lload_n (q_fin4 a), 1)
  | 3 => (.lload a, 2)
  | 4 => (.aload_n (q_fin4 a), 1)
  | _ => (.aload a, 2)
def q_ins2 (v a : Nat) : Instr × Nat := match v with
  | 0 => (.istore_n (q_fin4 a), 1)
  | 1 => (.istore a, 2)
  | 2 => (.lstore_n (q_fin4 a), 1)
  | 3 => (.lstore a, 2)
  | 4 => (.astore_n (q_fin4 a), 1)
  | _ => (.astore a, 2)
def q_ins4 (v : Nat) : Instr := match v with
  | 0 => .iadd
  | 1 => .isub
  | 2 => .imul
  | 3 => .iand
  | 4 => .ior
  | 5 => .ixor
  | 6 => .ishl
  | 7 => .ishr
  | 8 => .idiv
  | _ => .irem
def q_ins5 (v : Nat) : Instr := match v with
  | 0 => .ladd
  | 1 => .lsub
  | 2 => .lmul
  | 3 => .land
  | 4 => .lor
  | 5 => .ldiv
  | 6 => .lrem
  | _ => .lshl
def q_ins6 (v : Nat) : Instr := match v with
  | 0 => .i2l
  | 1 => .l2i
  | 2 => .i2b
  | _ => .i2s
def q_ins8 (v : Nat) (o : Int) : Instr := match v with
  | 0 => .ifCond .eq o
  | 1 => .ifCond .ne o
  | 2 => .ifCond .lt o
  | 3 => .ifCond .ge o
  | 4 => .ifCond .gt o
  | _ => .ifCond .le o
def q_ins9 (v : Nat) (o : Int) : Instr := match v with
  | 0 => .if_icmp .eq o
  | 1 => .if_icmp .ne o
  | 2 => .if_icmp .lt o
  | 3 => .if_icmp .ge o
  | 4 => .if_icmp .gt o
  | _ => .if_icmp .le o
def q_ins13 (v : Nat) : Instr := match v with
  | 0 => .dup
  | 1 => .dup2
  | _ => .pop
def q_ins20 (v : Nat) : Instr := match v with
  | 0 => .iaload
  | 1 => .baload
  | 2 => .laload
  | _ => .aaload
def q_ins21 (v : Nat) : Instr := match v with
  | 0 => .iastore
  | 1 => .bastore
  | 2 => .lastore
  | _ => .aastore
def q_ins23 (v a : Nat) : Instr := match v with
  | 0 => .invokestatic a
  | 1 => .invokespecial a
  | _ => .invokevirtual a
def q_ins24 (v : Nat) : Instr := match v with
  | 0 => .return_
  | 1 => .ireturn
  | 2 => .lreturn
  | _ => .areturn
/-- the instruction that stands there -/
def q_ins (e : qN) : Instr × Nat := match e.1 with
  | 0 => q_ins0 (q_v e) (q_a e) (q_b e)
  | 1 => q_ins1 (q_v e) (q_a e)
  | 2 => q_ins2 (q_v e) (q_a e)
  | 3 => (.iinc (q_a e) (q_sgn (q_b e) (q_v e)), 3)
  | 4 => (q_ins4 (q_v e), 1)
  | 5 => (q_ins5 (q_v e), 1)
  | 6 => (q_ins6 (q_v e), 1)
  | 7 => (.lcmp, 1)
  | 8 => (q_ins8 (q_v e) (q_off (q_pc e) (q_a e)), 3)
  | 9 => (q_ins9 (q_v e) (q_off (q_pc e) (q_a e)), 3)
  | 10 => (.goto (q_off (q_pc e) (q_a e)), 3)
  | 11 => (.ifnull (q_off (q_pc e) (q_a e)), 3)
  | 12 => (.tableswitch (q_off (q_pc e) (q_a e)) 0 ((q_t e).length - 1 : Int) ((q_t e).map (q_off (q_pc e))).toArray, q_b e)
  | 13 => (q_ins13 (q_v e), 1)
  | 14 => (.getfield (q_a e), 3)
  | 15 => (.putfield (q_a e), 3)
  | 16 => (.newarray (q_aty (q_v e)), 2)
  | 17 => (.anewarray (q_a e), 3)
  | 18 => (.multianewarray (q_a e) 2, 4)
  | 19 => (.arraylength, 1)
  | 20 => (q_ins20 (q_v e), 1)
  | 21 => (q_ins21 (q_v e), 1)
  | 22 => (.new (q_a e), 3)
  | 23 => (q_ins23 (q_v e) (q_a e), 3)
  | 24 => (q_ins24 (q_v e), 1)
  | 25 => (.invokespecial (q_a e), 3)
  | 26 => (.invokestatic (q_a e), 3)
  | 27 => (.ifnonnull (q_off (q_pc e) (q_a e)), 3)
  | _ => (.nop, 1)
-- arithmetic
def q_f4 (v : Nat) (x y : Int32) : Int32 := match v with
  | 0 => x + y
  | 1 => x - y
  | 2 => x * y
  | 3 => x &&& y
  | 4 => x ||| y
  | 5 => x ^^^ y
  | 6 => x <<< (y &&& 31)
  | 7 => x >>> (y &&& 31)
  | 8 => x / y
  | _ => x - x / y * y
def q_f5 (v : Nat) (x y : Int64) : Int64 := match v with
  | 0 => x + y
  | 1 => x - y
  | 2 => x * y
  | 3 => x &&& y
  | 4 => x ||| y
  | 5 => x / y
  | _ => x - x / y * y
section
variable (mc ms : Nat) (scr : Bool) (L : Nat)
noncomputable def q_go (env : qE) (h : qH) (k sl pc : Nat) (lv : qL) (stk : List qV) : Option (List qF) := q_fc pc fun pc => some [(env, h, k, sl, pc, lv, stk)]
noncomputable def q_gv (env : qE) (h : qH) (k sl pc : Nat) (lv : qL) (t n : Nat) (stk : List qV) : Option (List qF) := q_fc n fun n => q_go env h k sl pc lv ((t, n) :: stk)
def q_s0v (v a b : Nat) : Nat × Nat := match v with
  | 0 => (0, qNn (Int32.ofInt (q_sgn a b)))
  | 1 => (0, qNn (Int8.ofInt (q_sgn a b)).toInt32)
  | 2 => (0, qNn (Int16.ofInt (q_sgn a b)).toInt32)
  | 3 => (3, qMn (Int64.ofNat (q_fin2 a : Nat)))
  | 4 => (0, b)
  | 5 => (0, b)
  | 6 => (3, b)
  | 7 => (8, 0)
  | _ => (7, 0)
noncomputable def q_s0 (e : qN) (env : qE) (h : qH) (k sl : Nat) (lv : qL) (stk : List qV) : Option (List qF) :=
  q_gv env h k sl (q_pc e + (q_ins0 (q_v e) (q_a e) (q_b e)).2) lv (q_s0v (q_v e) (q_a e) (q_b e)).1 (q_s0v (q_v e) (q_a e) (q_b e)).2 stk
/-- which kind of value a variant of load, store or return takes -/
def q_kv (v : Nat) : Nat := match v with
  | 0 => 0
  | 1 => 0
  | 2 => 1
  | 3 => 1
  | _ => 2
noncomputable def q_s1 (e : qN) (env : qE) (h : qH) (k sl : Nat) (lv : qL) (stk : List qV) : Option (List qF) := match q_lg lv (q_a e) with
  | none => none
  | some x => bif Nat.beq (q_knd x) (q_kv (q_v e)) then q_go env h k sl (q_pc e + (q_ins1 (q_v e) (q_a e)).2) lv (x :: stk) else none
noncomputable def q_s2 (maxL : Nat) (e : qN) (env : qE) (h : qH) (k sl : Nat) (lv : qL) (stk : List qV) : Option (List qF) := match stk with
  | [] => none
  | x :: stk => bif Nat.beq (q_knd x) (q_kv (q_v e)) && Nat.blt (q_a e + 1) (maxL + 2 - q_cat x) then q_ls lv (q_a e) x fun lv => q_go env h k sl (q_pc e + (q_ins2 (q_v e) (q_a e)).2) lv stk else none
noncomputable def q_s3 (maxL : Nat) (e : qN) (env : qE) (h : qH) (k sl : Nat) (lv : qL) (stk : List qV) : Option (List qF) := match q_lg lv (q_a e) with
  | none => none
  | some x => bif Nat.beq (q_knd x) 0 && Nat.blt (q_a e) maxL then
      (bif Nat.beq x.1 0 then q_fc (qNn (qI x.2 + Int32.ofInt (q_sgn (q_b e) (q_v e)))) fun n => q_ls lv (q_a e) (0, n) fun lv => q_go env h k sl (q_pc e + 3) lv stk
        else q_ls lv (q_a e) (2, 0) fun lv => q_go env h k sl (q_pc e + 3) lv stk) else none
noncomputable def q_s4 (e : qN) (env : qE) (h : qH) (k sl : Nat) (lv : qL) (stk : List qV) : Option (List qF) := match stk with
  | y :: x :: stk =>
    bif Nat.beq (q_knd x) 0 && Nat.beq (q_knd y) 0 then
      bif Nat.beq x.1 0 && Nat.beq y.1 0 then
        (bif Nat.ble 8 (q_v e) && decide (qI y.2 = 0) then none else q_gv env h k sl (q_pc e + 1) lv 0 (qNn (q_f4 (q_v e) (qI x.2) (qI y.2))) stk)
      else bif q_isPt env y then some ((q_spl env y).map fun q => (q.1, h, k, sl, q_pc e, lv, q.2 :: x :: stk))
      else bif q_isPt env x then some ((q_spl env x).map fun q => (q.1, h, k, sl, q_pc e, lv, y :: q.2 :: stk))
      else bif Nat.ble (q_v e) 1 && Nat.beq y.1 0 && (Nat.beq x.1 1 && Nat.blt x.2 16 || Nat.beq x.1 10) then q_gv env h k sl (q_pc e + 1) lv 10 (x.2 % 16 + 16 * qNn (q_f4 (q_v e) (qI (x.2 / 16)) (qI y.2))) stk
      else bif Nat.ble 8 (q_v e) && !(Nat.beq y.1 0 && !decide (qI y.2 = 0)) then none else q_go env h k sl (q_pc e + 1) lv ((2, 0) :: stk)
    else none
  | _ => none
noncomputable def q_s5 (e : qN) (env : qE) (h : qH) (k sl : Nat) (lv : qL) (stk : List qV) : Option (List qF) := match stk with
  | y :: x :: stk =>
    bif Nat.ble 7 (q_v e) then (bif Nat.beq (q_knd x) 1 && Nat.beq (q_knd y) 0 then q_go env h k sl (q_pc e + 1) lv ((5, 0) :: stk) else none)
    else bif Nat.beq (q_knd x) 1 && Nat.beq (q_knd y) 1 then
      bif Nat.beq x.1 3 && Nat.beq y.1 3 then
        (bif Nat.ble 5 (q_v e) && decide (qJ y.2 = 0) then none else q_gv env h k sl (q_pc e + 1) lv 3 (qMn (q_f5 (q_v e) (qJ x.2) (qJ y.2))) stk)
      else bif Nat.ble 5 (q_v e) then none else q_go env h k sl (q_pc e + 1) lv ((5, 0) :: stk)
    else none
  | _ => none
def q_s6v (v : Nat) (x : qV) : Nat × Nat := match v with
  | 0 => (bif Nat.beq x.1 0 then (3, qMn (qI x.2).toInt64) else bif Nat.beq x.1 1 then (4, x.2) else (5, 0))
  | 1 => (bif Nat.beq x.1 3 then (0, qNn (qJ x.2).toInt32) else (2, 0))
  | 2 => (bif Nat.beq x.1 0 then (0, qNn (qI x.2).toInt8.toInt32) else (2, 0))
  | _ => (bif Nat.beq x.1 0 then (0, qNn (qI x.2).toInt16.toInt32) else (2, 0))
noncomputable def q_s6 (e : qN) (env : qE) (h : qH) (k sl : Nat) (lv : qL) (stk : List qV) : Option (List qF) := match stk with
  | x :: stk => bif Nat.beq (q_knd x) (bif Nat.beq (q_v e) 1 then 1 else 0) then q_gv env h k sl (q_pc e + 1) lv (q_s6v (q_v e) x).1 (q_s6v (q_v e) x).2 stk else none
  | _ => none
/-- the three ends of a compare of longs: the top, y, is the right side -/
def q_lc (env : qE) (x y : qV) : List (Nat × qE) :=
  bif Nat.beq x.1 3 && Nat.beq y.1 3 then [(qNn (lg_cmp (qJ x.2) (qJ y.2)), env)]
  else bif Nat.beq x.1 4 && Nat.beq y.1 3 && decide (0 ≤ (qJ y.2).toInt + 2147483648) then
    (q_lt env x.2 ((qJ y.2).toInt + 2147483648).toNat true false).flatMap fun q => bif q.1 then [(qNn (-1), q.2)] else (q_gt q.2 x.2 ((qJ y.2).toInt + 2147483648).toNat true false).map fun r => bif r.1 then (1, r.2) else (0, r.2)
  else bif Nat.beq x.1 3 && Nat.beq y.1 4 && decide (0 ≤ (qJ x.2).toInt + 2147483648) then
    (q_lt env y.2 ((qJ x.2).toInt + 2147483648).toNat true false).flatMap fun q => bif q.1 then [(1, q.2)] else (q_gt q.2 y.2 ((qJ x.2).toInt + 2147483648).toNat true false).map fun r => bif r.1 then (qNn (-1), r.2) else (0, r.2)
  else [(qNn (-1), env), (0, env), (1, env)]
noncomputable def q_s7 (e : qN) (env : qE) (h : qH) (k sl : Nat) (lv : qL) (stk : List qV) : Option (List qF) := match stk with
  | y :: x :: stk => bif Nat.beq (q_knd x) 1 && Nat.beq (q_knd y) 1 then some ((q_lc env x y).map fun q => q_fc q.1 fun n => (q.2, h, k, sl, q_pc e + 1, lv, (0, n) :: stk)) else none
  | _ => none
noncomputable def q_s8 (e : qN) (env : qE) (h : qH) (k sl : Nat) (lv : qL) (stk : List qV) : Option (List qF) := match stk with
  | x :: stk => bif Nat.beq (q_knd x) 0 then some ((q_cmp (q_v e) env x (0, 0)).map fun q => q_fc (bif q.1 then q_a e else q_pc e + 3) fun pc => (q.2, h, k, sl, pc, lv, stk)) else none
  | _ => none
noncomputable def q_s9 (e : qN) (env : qE) (h : qH) (k sl : Nat) (lv : qL) (stk : List qV) : Option (List qF) := match stk with
  | y :: x :: stk => bif Nat.beq x.1 1 && Nat.beq y.1 1 && q_isPt env y then some ((q_spl env y).map fun q => (q.1, h, k, sl, q_pc e, lv, q.2 :: x :: stk)) else bif Nat.beq x.1 1 && Nat.beq y.1 1 && q_isPt env x then some ((q_spl env x).map fun q => (q.1, h, k, sl, q_pc e, lv, y :: q.2 :: stk)) else bif Nat.beq (q_knd x) 0 && Nat.beq (q_knd y) 0 then some ((q_cmp (q_v e) env x y).map fun q => q_fc (bif q.1 then q_a e else q_pc e + 3) fun pc => (q.2, h, k, sl, pc, lv, stk)) else none
  | _ => none
noncomputable def q_s11 (e : qN) (env : qE) (h : qH) (k sl : Nat) (lv : qL) (stk : List qV) : Option (List qF) := match stk with
  | x :: stk => bif Nat.beq (q_knd x) 2 then q_go env h k sl (bif Nat.beq x.1 7 then q_a e else q_pc e + 3) lv stk else none
  | _ => none
noncomputable def q_s27 (e : qN) (env : qE) (h : qH) (k sl : Nat) (lv : qL) (stk : List qV) : Option (List qF) := match stk with
  | x :: stk => bif Nat.beq (q_knd x) 2 then q_go env h k sl (bif Nat.beq x.1 7 then q_pc e + 3 else q_a e) lv stk else none
  | _ => none
/-- the cases of a switch from 0 on for a place of the script: each target with its interval -/
noncomputable def q_sw (env : qE) (i : Nat) (ts : List Nat) : Nat → List (qE × Nat) := List.rec (motive := fun _ => Nat → List (qE × Nat)) (fun _ => [])
  (fun t _ ih j => (bif Nat.ble (q_eg env i).1 (j + 2147483648) && Nat.ble (j + 2147483648) (q_eg env i).2 then [(q_iv env i (j + 2147483648) (j + 2147483648), t)] else []) ++ ih (j + 1)) ts
/-- the default of such a switch: below it and above it -/
def q_swd (env : qE) (i a : Nat) (ts : List Nat) : List (qE × Nat) :=
  (bif Nat.blt (q_eg env i).1 2147483648 then [(q_iv env i (q_eg env i).1 (Nat.min (q_eg env i).2 2147483647), a)] else []) ++
    (bif Nat.ble (2147483648 + ts.length) (q_eg env i).2 then [(q_iv env i (Nat.max (q_eg env i).1 (2147483648 + ts.length)) (q_eg env i).2, a)] else [])
noncomputable def q_s12 (e : qN) (env : qE) (h : qH) (k sl : Nat) (lv : qL) (stk : List qV) : Option (List qF) := match stk with
  | x :: stk =>
    bif Nat.beq x.1 0 then q_go env h k sl (bif Nat.blt (qI x.2).toNatClampNeg (q_t e).length && decide (0 ≤ (qI x.2).toInt) then (q_t e).getD (qI x.2).toNatClampNeg 0 else q_a e) lv stk
    else bif Nat.beq x.1 1 then some ((q_swd env x.2 (q_a e) (q_t e) ++ q_sw env x.2 (q_t e) 0).map fun q => (q.1, h, k, sl, q.2, lv, stk))
    else bif Nat.beq x.1 2 then some ((env, h, k, sl, q_a e, lv, stk) :: (q_t e).map fun t => (env, h, k, sl, t, lv, stk))
    else none
  | _ => none
noncomputable def q_s13 (e : qN) (env : qE) (h : qH) (k sl : Nat) (lv : qL) (stk : List qV) : Option (List qF) := match q_v e, stk with
  | 0, x :: stk => bif Nat.beq (q_cat x) 1 then q_go env h k sl (q_pc e + 1) lv (x :: x :: stk) else none
  | 1, x :: stk => bif Nat.beq (q_cat x) 2 then q_go env h k sl (q_pc e + 1) lv (x :: x :: stk) else (match stk with
    | y :: stk => bif Nat.beq (q_cat y) 1 then q_go env h k sl (q_pc e + 1) lv (x :: y :: x :: y :: stk) else none
    | _ => none)
  | 2, x :: stk => bif Nat.beq (q_cat x) 1 then q_go env h k sl (q_pc e + 1) lv stk else none
  | _, _ => none
noncomputable def q_s14 (e : qN) (env : qE) (h : qH) (k sl : Nat) (lv : qL) (stk : List qV) : Option (List qF) := match stk with
  | x :: stk => bif Nat.beq x.1 6 && Nat.blt x.2 h.2 && Nat.beq (h.1.get x.2).1 (q_v e) && Nat.blt (q_b e) (h.1.get x.2).2.1 then q_go env h k sl (q_pc e + 3) lv (((h.1.get x.2).2.2.get (q_b e)) :: stk) else none
  | _ => none
/-- what a field or a place takes: 0 int, 1 boolean, 2 long, 3 a reference -/
def q_fit (ty : Nat) (x : qV) : Bool := match ty with
  | 0 => Nat.beq (q_knd x) 0
  | 1 => Nat.beq x.1 0 && Nat.ble x.2 1
  | 2 => Nat.beq (q_knd x) 1
  | _ => Nat.beq (q_knd x) 2
noncomputable def q_put (h : qH) (c j : Nat) (x : qV) : qH := (q_ts ((h.1.get c).1, (h.1.get c).2.1, q_ts x j (h.1.get c).2.2 0 (h.1.get c).2.1) c h.1 0 1024, h.2)
/-- a tree with its root laid open -/
noncomputable def q_opn {α β : Type} (t : Lean.RArray α) (k : Lean.RArray α → β) : β := Lean.RArray.rec (motive := fun _ => β) (fun a => k (.leaf a)) (fun p l r _ _ => k (.branch p l r)) t
noncomputable def q_gh (env : qE) (h : qH) (k sl pc : Nat) (lv : qL) (stk : List qV) : Option (List qF) := q_opn h.1 fun t => q_go env (t, h.2) k sl pc lv stk
noncomputable def q_s15 (e : qN) (env : qE) (h : qH) (k sl : Nat) (lv : qL) (stk : List qV) : Option (List qF) := match stk with
  | y :: x :: stk => bif Nat.beq x.1 6 && Nat.blt x.2 h.2 && Nat.beq (h.1.get x.2).1 (q_v e) && Nat.blt (q_b e) (h.1.get x.2).2.1 && q_fit ((q_t e).getD 0 9) y && Nat.blt 0 (q_t e).length then q_gh env (q_put h x.2 (q_b e) y) k sl (q_pc e + 3) lv stk else none
  | _ => none
noncomputable def q_mk (c : qC) (n : Nat) (env : qE) (h : qH) (k sl pc : Nat) (lv : qL) (stk : List qV) : Option (List qF) :=
  bif Nat.blt h.2 1024 && Nat.ble (k + 1) mc && Nat.ble (sl + n) ms then q_fc (h.2 + 1) fun h2 => q_fc (k + 1) fun k1 => q_fc (sl + n) fun s1 => q_gh env (q_ts c h.2 h.1 0 1024, h2) k1 s1 pc lv ((6, h.2) :: stk) else none
noncomputable def q_s16 (e : qN) (env : qE) (h : qH) (k sl : Nat) (lv : qL) (stk : List qV) : Option (List qF) := match stk with
  | x :: stk => bif Nat.beq x.1 0 && Nat.blt x.2 100000 then q_mk mc ms (bif Nat.ble (q_v e) 2 then 100 + q_v e else 103, x.2, .leaf (bif Nat.ble (q_v e) 2 then (0, 0) else (3, 0))) x.2 env h k sl (q_pc e + 2) lv stk else none
  | _ => none
noncomputable def q_s17 (e : qN) (env : qE) (h : qH) (k sl : Nat) (lv : qL) (stk : List qV) : Option (List qF) := match stk with
  | x :: stk => bif Nat.beq x.1 0 && Nat.blt x.2 100000 then q_mk mc ms (200 + q_v e, x.2, .leaf (7, 0)) x.2 env h k sl (q_pc e + 3) lv stk else none
  | _ => none
/-- n rows of m ints behind the cells that are there -/
noncomputable def q_rows (n m : Nat) (h : qH) : qH := Nat.rec (motive := fun _ => qH) h (fun _ ih => (q_ts (100, m, .leaf (0, 0)) ih.2 ih.1 0 1024, ih.2 + 1)) n
/-- a tree of the numbers from lo to hi, moved -/
noncomputable def q_ids (at_ n : Nat) : Lean.RArray qV := Nat.rec (motive := fun _ => Lean.RArray qV) (.leaf (7, 0)) (fun i ih => q_ts (6, at_ + i) i ih 0 n) n
noncomputable def q_s18 (e : qN) (env : qE) (h : qH) (k sl : Nat) (lv : qL) (stk : List qV) : Option (List qF) := match stk with
  | y :: x :: stk => bif Nat.beq x.1 0 && Nat.beq y.1 0 && Nat.blt x.2 1000 && Nat.blt y.2 1000 && Nat.blt (h.2 + x.2) 1024 && Nat.ble (k + 1 + x.2) mc && Nat.ble (sl + x.2 + x.2 * y.2) ms then
      q_fc (k + 1 + x.2) fun k1 => q_fc (sl + x.2 + x.2 * y.2) fun s1 => q_gh env (q_rows x.2 y.2 (q_ts (300, x.2, q_ids (h.2 + 1) x.2) h.2 h.1 0 1024, h.2 + 1)) k1 s1 (q_pc e + 4) lv ((6, h.2) :: stk) else none
  | _ => none
noncomputable def q_s19 (e : qN) (env : qE) (h : qH) (k sl : Nat) (lv : qL) (stk : List qV) : Option (List qF) := match stk with
  | x :: stk => bif Nat.beq x.1 6 && Nat.blt x.2 h.2 && Nat.ble 100 (h.1.get x.2).1 then q_go env h k sl (q_pc e + 1) lv ((0, (h.1.get x.2).2.1) :: stk)
      else bif scr && Nat.beq x.1 9 then q_go env h k sl (q_pc e + 1) lv ((0, L) :: stk) else none
  | _ => none
/-- which kinds of cell an array instruction takes -/
def q_akd (v kind : Nat) : Bool := match v with
  | 0 => Nat.beq kind 100
  | 1 => Nat.beq kind 101 || Nat.beq kind 102
  | 2 => Nat.beq kind 103
  | _ => Nat.ble 200 kind
noncomputable def q_s20 (e : qN) (env : qE) (h : qH) (k sl : Nat) (lv : qL) (stk : List qV) : Option (List qF) := match stk with
  | y :: x :: stk =>
    bif Nat.beq y.1 0 then
      bif Nat.beq x.1 6 && Nat.blt x.2 h.2 && q_akd (q_v e) (h.1.get x.2).1 && Nat.blt y.2 (h.1.get x.2).2.1 && Nat.blt y.2 2147483648 then q_go env h k sl (q_pc e + 1) lv (((h.1.get x.2).2.2.get y.2) :: stk)
      else bif scr && Nat.beq x.1 9 && Nat.blt y.2 L && Nat.blt y.2 2147483648 && Nat.beq (q_v e) 0 then q_go env h k sl (q_pc e + 1) lv ((1, y.2) :: stk) else none
    else bif q_isPt env y then some ((q_spl env y).map fun q => (q.1, h, k, sl, q_pc e, lv, q.2 :: x :: stk))
    else none
  | _ => none
/-- what an array keeps of a value -/
def q_kep (v kind : Nat) (x : qV) : Option qV := match v with
  | 0 => bif Nat.beq kind 100 && Nat.beq (q_knd x) 0 then some x else none
  | 1 => bif Nat.beq kind 101 && Nat.beq (q_knd x) 0 then some (bif Nat.beq x.1 0 then (0, qNn (vp_nar .byte (qI x.2))) else (2, 0)) else bif Nat.beq kind 102 && Nat.beq (q_knd x) 0 then some (bif Nat.beq x.1 0 then (0, qNn (vp_nar .boolean (qI x.2))) else (2, 0)) else none
  | 2 => bif Nat.beq kind 103 && Nat.beq (q_knd x) 1 then some x else none
  | _ => none
noncomputable def q_s21 (e : qN) (env : qE) (h : qH) (k sl : Nat) (lv : qL) (stk : List qV) : Option (List qF) := match stk with
  | z :: y :: x :: stk =>
    bif Nat.beq y.1 0 then
      bif Nat.beq x.1 6 && Nat.blt x.2 h.2 && Nat.blt y.2 (h.1.get x.2).2.1 && Nat.blt y.2 2147483648 then
        (bif Nat.ble 3 (q_v e) then (bif Nat.ble 200 (h.1.get x.2).1 && Nat.blt (h.1.get x.2).1 300 && Nat.beq z.1 6 && Nat.blt z.2 h.2 && Nat.beq (200 + (h.1.get z.2).1) (h.1.get x.2).1 then q_gh env (q_put h x.2 y.2 z) k sl (q_pc e + 1) lv stk else none)
          else match q_kep (q_v e) (h.1.get x.2).1 z with
            | none => none
            | some z' => q_fc z'.2 fun n => q_gh env (q_put h x.2 y.2 (z'.1, n)) k sl (q_pc e + 1) lv stk)
      else none
    else bif q_isPt env y then some ((q_spl env y).map fun q => (q.1, h, k, sl, q_pc e, lv, z :: q.2 :: x :: stk))
    else none
  | _ => none
/-- a new object's fields: their kinds in the order of the slots (0 int, 1 boolean, 2 long, 3 a reference) -/
def q_dv (ty : Nat) : qV := match ty with
  | 0 => (0, 0)
  | 1 => (0, 0)
  | 2 => (3, 0)
  | _ => (7, 0)
noncomputable def q_dt (l : List Nat) (n : Nat) : Lean.RArray qV := List.rec (motive := fun _ => Nat → Lean.RArray qV) (fun _ => .leaf (7, 0)) (fun ty _ ih i => q_ts (q_dv ty) i (ih (i + 1)) 0 n) l 0
noncomputable def q_s22 (e : qN) (env : qE) (h : qH) (k sl : Nat) (lv : qL) (stk : List qV) : Option (List qF) :=
  q_mk mc ms (q_v e, (q_t e).length, q_dt (q_t e) (q_t e).length) (q_t e).length env h k sl (q_pc e + 3) lv stk
noncomputable def q_s25 (e : qN) (env : qE) (h : qH) (k sl : Nat) (lv : qL) (stk : List qV) : Option (List qF) := match stk with
  | x :: stk => bif Nat.beq x.1 6 && Nat.ble (stk.map q_cat).sum 8 then q_go env h k sl (q_pc e + 3) lv stk else none
  | _ => none
noncomputable def q_cpy (src dst : Lean.RArray qV) (sp dp n N : Nat) : Lean.RArray qV := Nat.rec (motive := fun _ => Lean.RArray qV) dst (fun i ih => q_ts (src.get (sp + i)) (dp + i) ih 0 N) n
noncomputable def q_s26 (e : qN) (env : qE) (h : qH) (k sl : Nat) (lv : qL) (stk : List qV) : Option (List qF) := match stk with
  | n :: dp :: y :: sp :: x :: stk =>
    bif Nat.beq n.1 0 && Nat.beq dp.1 0 && Nat.beq sp.1 0 && Nat.beq x.1 6 && Nat.beq y.1 6 && Nat.blt x.2 h.2 && Nat.blt y.2 h.2 && Nat.beq (h.1.get x.2).1 (h.1.get y.2).1 && (Nat.beq (h.1.get x.2).1 100 || Nat.beq (h.1.get x.2).1 103) && Nat.ble (sp.2 + n.2) (h.1.get x.2).2.1 && Nat.ble (dp.2 + n.2) (h.1.get y.2).2.1 && Nat.blt sp.2 2147483648 && Nat.blt dp.2 2147483648 && Nat.blt n.2 2147483648 && Nat.ble (stk.map q_cat).sum 8 then
      q_gh env (q_ts ((h.1.get y.2).1, (h.1.get y.2).2.1, bif Nat.beq sp.2 0 && Nat.beq dp.2 0 && Nat.beq n.2 (h.1.get y.2).2.1 then (h.1.get x.2).2.2 else q_cpy (h.1.get x.2).2.2 (h.1.get y.2).2.2 sp.2 dp.2 n.2 (h.1.get y.2).2.1) y.2 h.1 0 1024, h.2) k sl (q_pc e + 3) lv stk else none
  | _ => none
noncomputable def q_step (maxL : Nat) (e : qN) (env : qE) (h : qH) (k sl : Nat) (lv : qL) (stk : List qV) : Option (List qF) := match e.1 with
  | 0 => q_s0 e env h k sl lv stk
  | 1 => q_s1 e env h k sl lv stk
  | 2 => q_s2 maxL e env h k sl lv stk
  | 3 => q_s3 maxL e env h k sl lv stk
  | 4 => q_s4 e env h k sl lv stk
  | 5 => q_s5 e env h k sl lv stk
  | 6 => q_s6 e env h k sl lv stk
  | 7 => q_s7 e env h k sl lv stk
  | 8 => q_s8 e env h k sl lv stk
  | 9 => q_s9 e env h k sl lv stk
  | 10 => q_go env h k sl (q_a e) lv stk
  | 11 => q_s11 e env h k sl lv stk
  | 12 => q_s12 e env h k sl lv stk
  | 13 => q_s13 e env h k sl lv stk
  | 14 => q_s14 e env h k sl lv stk
  | 15 => q_s15 e env h k sl lv stk
  | 16 => q_s16 mc ms e env h k sl lv stk
  | 17 => q_s17 mc ms e env h k sl lv stk
  | 18 => q_s18 mc ms e env h k sl lv stk
  | 19 => q_s19 scr L e env h k sl lv stk
  | 20 => q_s20 scr L e env h k sl lv stk
  | 21 => q_s21 e env h k sl lv stk
  | 22 => q_s22 mc ms e env h k sl lv stk
  | 25 => q_s25 e env h k sl lv stk
  | 26 => q_s26 e env h k sl lv stk
  | 27 => q_s27 e env h k sl lv stk
  | _ => none
end
end
section
-- 04.rel: what an abstract state says of the machine's
def q_RV (ρ : Nat → Int32) (sb : Nat × va_W) (ws : va_W) (x : qV) (v : Value) : Prop := match x.1 with
  | 0 => v = .int (qI x.2)
  | 1 => v = .int (ρ x.2)
  | 2 => ∃ c, v = .int c
  | 3 => v = .long (qJ x.2)
  | 4 => v = .long (ρ x.2).toInt64
  | 5 => ∃ c, v = .long c
  | 6 => ∃ a e, ws[x.2]? = some (a, e) ∧ v = .ref a
  | 7 => v = .null
  | 8 => ∃ a, v = .ref a
  | 9 => v = .ref sb.1
  | 10 => v = .int (ρ (x.2 % 16) + qI (x.2 / 16))
  | _ => False
def q_ext (ws ws' : va_W) : Prop := ∀ (k : Nat) (a : Nat) (e : va_E), ws[k]? = some (a, e) → ∃ e', ws'[k]? = some (a, e')
theorem q_ext.rf {ws : va_W} : q_ext ws ws := fun _ _ e h => ⟨e, h⟩
theorem q_ext.tr {a b c : va_W} (h1 : q_ext a b) (h2 : q_ext b c) : q_ext a c := fun k x e h => by
  obtain ⟨e', h'⟩ := h1 k x e h
  exact h2 k x e' h'
theorem q_ext.app {ws w : va_W} : q_ext ws (ws ++ w) := fun k a e h => ⟨e, by rw [List.getElem?_append_left (List.getElem?_eq_some_iff.mp h).1]; exact h⟩
theorem q_ext.set {ws : va_W} {k a : Nat} {e e1 : va_E} (h : ws[k]? = some (a, e)) : q_ext ws (ws.set k (a, e1)) := fun j b e2 hj => by
  by_cases hkj : k = j
  · subst hkj
    rw [h] at hj
    cases hj
    exact ⟨e1, by rw [List.getElem?_set_self (List.getElem?_eq_some_iff.mp h).1]⟩
  · exact ⟨e2, by rw [List.getElem?_set_ne hkj]; exact hj⟩
theorem q_RV.mono {ρ : Nat → Int32} {sb : Nat × va_W} {ws ws' : va_W} {x : qV} {v : Value} (hw : q_ext ws ws') (h : q_RV ρ sb ws x v) : q_RV ρ sb ws' x v := by
  obtain ⟨t, n⟩ := x
  rcases t with _ | _ | _ | _ | _ | _ | _ | _ | _ | _ | _ | t
  case succ.succ.succ.succ.succ.succ.zero =>
    obtain ⟨a, e, h1, h2⟩ := h
    obtain ⟨e', h'⟩ := hw _ _ _ h1
    exact ⟨a, e', h', h2⟩
  all_goals exact h
theorem q_RV.int {ρ : Nat → Int32} {sb : Nat × va_W} {ws : va_W} {x : qV} {v : Value} (h : q_RV ρ sb ws x v) (hk : q_knd x = 0) : ∃ c, v = .int c := by
  obtain ⟨t, n⟩ := x
  rcases t with _ | _ | _ | _ | _ | _ | _ | _ | _ | _ | _ | t
  · exact ⟨_, h⟩
  · exact ⟨_, h⟩
  · exact h
  case succ.succ.succ.succ.succ.succ.succ.succ.succ.succ.zero => exact ⟨_, h⟩
  all_goals first | exact (h : False).elim | (exfalso; simp [q_knd, q_ble] at hk)
theorem q_RV.long {ρ : Nat → Int32} {sb : Nat × va_W} {ws : va_W} {x : qV} {v : Value} (h : q_RV ρ sb ws x v) (hk : q_knd x = 1) : ∃ c, v = .long c := by
  obtain ⟨t, n⟩ := x
  rcases t with _ | _ | _ | _ | _ | _ | _ | _ | _ | _ | _ | t
  case succ.succ.succ.zero => exact ⟨_, h⟩
  case succ.succ.succ.succ.zero => exact ⟨_, h⟩
  case succ.succ.succ.succ.succ.zero => exact h
  case succ.succ.succ.succ.succ.succ.succ.succ.succ.succ.zero => exact absurd (show (0 : Nat) = 1 from hk) (by decide)
  all_goals first | exact (h : False).elim | (exfalso; simp [q_knd, q_ble] at hk)
theorem q_RV.rf {ρ : Nat → Int32} {sb : Nat × va_W} {ws : va_W} {x : qV} {v : Value} (h : q_RV ρ sb ws x v) (hk : q_knd x = 2) : (x.1 = 7 ∧ v = .null) ∨ (x.1 ≠ 7 ∧ ∃ a, v = .ref a) := by
  obtain ⟨t, n⟩ := x
  rcases t with _ | _ | _ | _ | _ | _ | _ | _ | _ | _ | _ | t
  case succ.succ.succ.succ.succ.succ.zero => obtain ⟨a, e, h1, h2⟩ := h; exact Or.inr ⟨(fun q => by cases q), a, h2⟩
  case succ.succ.succ.succ.succ.succ.succ.zero => exact Or.inl ⟨rfl, h⟩
  case succ.succ.succ.succ.succ.succ.succ.succ.zero => obtain ⟨a, h2⟩ := h; exact Or.inr ⟨(fun q => by cases q), a, h2⟩
  case succ.succ.succ.succ.succ.succ.succ.succ.succ.zero => exact Or.inr ⟨(fun q => by cases q), sb.1, h⟩
  case succ.succ.succ.succ.succ.succ.succ.succ.succ.succ.zero => exact absurd (show (0 : Nat) = 2 from hk) (by decide)
  all_goals first | exact (h : False).elim | (exfalso; simp [q_knd, q_ble] at hk)
theorem q_RV.cat {ρ : Nat → Int32} {sb : Nat × va_W} {ws : va_W} {x : qV} {v : Value} (h : q_RV ρ sb ws x v) : v.category = q_cat x := by
  obtain ⟨t, n⟩ := x
  rcases t with _ | _ | _ | _ | _ | _ | _ | _ | _ | _ | _ | t
  · have h : v = _ := h; subst h; rfl
  · have h : v = _ := h; subst h; rfl
  · obtain ⟨c, h⟩ := (h : ∃ c, v = .int c); subst h; rfl
  · have h : v = _ := h; subst h; rfl
  · have h : v = _ := h; subst h; rfl
  · obtain ⟨c, h⟩ := (h : ∃ c, v = .long c); subst h; rfl
  · obtain ⟨a, e, h1, h⟩ := (h : ∃ a e, ws[n]? = some (a, e) ∧ v = .ref a); subst h; rfl
  · have h : v = _ := h; subst h; rfl
  · obtain ⟨c, h⟩ := (h : ∃ c, v = .ref c); subst h; rfl
  · have h : v = _ := h; subst h; rfl
  · have h : v = _ := h; subst h; rfl
  · exact (h : False).elim
/-- what a variable's intervals say -/
def q_En (ρ : Nat → Int32) (env : qE) : Prop := ∀ (i : Nat) (p : Nat × Nat), env[i]? = some p → p.1 ≤ qB (ρ i) ∧ qB (ρ i) ≤ p.2
theorem qB_lt (x : Int32) : qB x < 4294967296 := by
  have h1 := x.toInt_lt
  have h2 := x.le_toInt
  unfold qB
  omega
theorem qB_int (x : Int32) : (qB x : Int) = x.toInt + 2147483648 := by
  have h2 := x.le_toInt
  unfold qB
  omega
theorem qB_inj {x y : Int32} : x = y ↔ qB x = qB y := by
  have h1 := qB_int x
  have h2 := qB_int y
  rw [← Int32.toInt_inj]
  omega
theorem qB_iff {x y : Int32} : x < y ↔ qB x < qB y := by
  have h1 := qB_int x
  have h2 := qB_int y
  rw [Int32.lt_iff_toInt_lt]
  omega
theorem q_eg_ok {ρ : Nat → Int32} {env : qE} (h : q_En ρ env) (i : Nat) : (q_eg env i).1 ≤ qB (ρ i) ∧ qB (ρ i) ≤ (q_eg env i).2 := by
  unfold q_eg
  cases he : env[i]? with
  | none =>
    have := qB_lt (ρ i)
    exact ⟨Nat.zero_le _, by show qB (ρ i) ≤ 4294967295; omega⟩
  | some p => exact h i p he
theorem q_iv_ok {ρ : Nat → Int32} {env : qE} (h : q_En ρ env) {i lo hi : Nat} (h1 : lo ≤ qB (ρ i)) (h2 : qB (ρ i) ≤ hi) : q_En ρ (q_iv env i lo hi) := by
  intro j p hj
  unfold q_iv at hj
  by_cases hij : i = j
  · subst hij
    rw [List.getElem?_set] at hj
    simp only [if_true] at hj
    split at hj
    · cases hj; exact ⟨h1, h2⟩
    · cases hj
  · rw [List.getElem?_set_ne hij] at hj
    exact h j p hj
theorem q_lt_ok {ρ : Nat → Int32} {env : qE} (h : q_En ρ env) (i b : Nat) (t f : Bool) : ∃ q ∈ q_lt env i b t f, q.1 = (if qB (ρ i) < b then t else f) ∧ q_En ρ q.2 := by
  obtain ⟨h1, h2⟩ := q_eg_ok h i
  by_cases hb : qB (ρ i) < b
  · refine ⟨(t, q_iv env i (q_eg env i).1 (Nat.min (q_eg env i).2 (b - 1))), ?_, by simp [hb], q_iv_ok h h1 (Nat.le_min.mpr ⟨h2, by omega⟩)⟩
    unfold q_lt
    refine List.mem_append_left _ ?_
    have e : Nat.blt (q_eg env i).1 b = true := by unfold Nat.blt; exact Nat.ble_eq_true_of_le (by omega)
    rw [e]
    exact List.mem_singleton.mpr rfl
  · refine ⟨(f, q_iv env i (Nat.max (q_eg env i).1 b) (q_eg env i).2), ?_, by simp [hb], q_iv_ok h (Nat.max_le.mpr ⟨h1, by omega⟩) h2⟩
    unfold q_lt
    refine List.mem_append_right _ ?_
    have e : Nat.ble b (q_eg env i).2 = true := Nat.ble_eq_true_of_le (by omega)
    rw [e]
    exact List.mem_singleton.mpr rfl
theorem q_gt_ok {ρ : Nat → Int32} {env : qE} (h : q_En ρ env) (i b : Nat) (t f : Bool) : ∃ q ∈ q_gt env i b t f, q.1 = (if b < qB (ρ i) then t else f) ∧ q_En ρ q.2 := by
  obtain ⟨h1, h2⟩ := q_eg_ok h i
  by_cases hb : b < qB (ρ i)
  · refine ⟨(t, q_iv env i (Nat.max (q_eg env i).1 (b + 1)) (q_eg env i).2), ?_, by simp [hb], q_iv_ok h (Nat.max_le.mpr ⟨h1, by omega⟩) h2⟩
    unfold q_gt
    refine List.mem_append_left _ ?_
    have e : Nat.blt b (q_eg env i).2 = true := by unfold Nat.blt; exact Nat.ble_eq_true_of_le (by omega)
    rw [e]
    exact List.mem_singleton.mpr rfl
  · refine ⟨(f, q_iv env i (q_eg env i).1 (Nat.min (q_eg env i).2 b)), ?_, by simp [hb], q_iv_ok h h1 (Nat.le_min.mpr ⟨h2, by omega⟩)⟩
    unfold q_gt
    refine List.mem_append_right _ ?_
    have e : Nat.ble (q_eg env i).1 b = true := Nat.ble_eq_true_of_le (by omega)
    rw [e]
    exact List.mem_singleton.mpr rfl
theorem q_beq (a b : Nat) : Nat.beq a b = decide (a = b) := by
  by_cases h : a = b
  · rw [decide_eq_true h]; rw [h]; exact Nat.beq_refl b
  · rw [decide_eq_false h]
    cases hb : Nat.beq a b with
    | false => rfl
    | true => exact absurd (Nat.eq_of_beq_eq_true hb) h
theorem q_blt (a b : Nat) : Nat.blt a b = decide (a < b) := by unfold Nat.blt; rw [q_ble]; rfl
theorem q_eq_ok {ρ : Nat → Int32} {env : qE} (h : q_En ρ env) (i b : Nat) (t f : Bool) : ∃ q ∈ q_eq env i b t f, q.1 = (if qB (ρ i) = b then t else f) ∧ q_En ρ q.2 := by
  obtain ⟨h1, h2⟩ := q_eg_ok h i
  by_cases hb : qB (ρ i) = b
  · refine ⟨(t, q_iv env i b b), ?_, by simp [hb], q_iv_ok h (by omega) (by omega)⟩
    unfold q_eq
    refine List.mem_append_left _ ?_
    have e : (Nat.ble (q_eg env i).1 b && Nat.ble b (q_eg env i).2) = true := by rw [Nat.ble_eq_true_of_le (by omega), Nat.ble_eq_true_of_le (by omega)]; rfl
    rw [e]
    exact List.mem_singleton.mpr rfl
  · by_cases hlt : qB (ρ i) < b
    · refine ⟨(f, q_iv env i (q_eg env i).1 (Nat.min (q_eg env i).2 (b - 1))), ?_, by simp [hb], q_iv_ok h h1 (Nat.le_min.mpr ⟨h2, by omega⟩)⟩
      unfold q_eq
      refine List.mem_append_right _ (List.mem_append_left _ ?_)
      have e : Nat.blt (q_eg env i).1 b = true := by rw [q_blt]; exact decide_eq_true (by omega)
      rw [e]
      exact List.mem_singleton.mpr rfl
    · refine ⟨(f, q_iv env i (Nat.max (q_eg env i).1 (b + 1)) (q_eg env i).2), ?_, by simp [hb], q_iv_ok h (Nat.max_le.mpr ⟨h1, by omega⟩) h2⟩
      unfold q_eq
      refine List.mem_append_right _ (List.mem_append_right _ ?_)
      have e : Nat.blt b (q_eg env i).2 = true := by rw [q_blt]; exact decide_eq_true (by omega)
      rw [e]
      exact List.mem_singleton.mpr rfl
def q_opN (o u v : Nat) : Bool := match o with
  | 0 => decide (u = v)
  | 1 => !decide (u = v)
  | 2 => decide (u < v)
  | 3 => !decide (u < v)
  | 4 => decide (v < u)
  | _ => !decide (v < u)
theorem q_op_N (o : Nat) (x y : Int32) : q_op o x y = q_opN o (qB x) (qB y) := by
  rcases o with _ | _ | _ | _ | _ | o
  · show decide (x = y) = decide _; by_cases g : x = y <;> simp [g, qB_inj.symm]
  · show (!decide (x = y)) = !decide _; by_cases g : x = y <;> simp [g, qB_inj.symm]
  · show decide (x < y) = decide _; by_cases g : x < y <;> simp [g, qB_iff.symm]
  · show (!decide (x < y)) = !decide _; by_cases g : x < y <;> simp [g, qB_iff.symm]
  · show decide (y < x) = decide _; by_cases g : y < x <;> simp [g, qB_iff.symm]
  · show (!decide (y < x)) = !decide _; by_cases g : y < x <;> simp [g, qB_iff.symm]
theorem q_cmpv_okN {ρ : Nat → Int32} {env : qE} (h : q_En ρ env) (o i b : Nat) : ∃ q ∈ q_cmpv o env i b, q.1 = q_opN o (qB (ρ i)) b ∧ q_En ρ q.2 := by
  rcases o with _ | _ | _ | _ | _ | o
  · obtain ⟨q, h1, h2, h3⟩ := q_eq_ok h i b true false
    exact ⟨q, h1, by rw [h2]; show _ = decide (qB (ρ i) = b); by_cases g : qB (ρ i) = b <;> simp [g], h3⟩
  · obtain ⟨q, h1, h2, h3⟩ := q_eq_ok h i b false true
    exact ⟨q, h1, by rw [h2]; show _ = !decide (qB (ρ i) = b); by_cases g : qB (ρ i) = b <;> simp [g], h3⟩
  · obtain ⟨q, h1, h2, h3⟩ := q_lt_ok h i b true false
    exact ⟨q, h1, by rw [h2]; show _ = decide (qB (ρ i) < b); by_cases g : qB (ρ i) < b <;> simp [g], h3⟩
  · obtain ⟨q, h1, h2, h3⟩ := q_lt_ok h i b false true
    exact ⟨q, h1, by rw [h2]; show _ = !decide (qB (ρ i) < b); by_cases g : qB (ρ i) < b <;> simp [g], h3⟩
  · obtain ⟨q, h1, h2, h3⟩ := q_gt_ok h i b true false
    exact ⟨q, h1, by rw [h2]; show _ = decide (b < qB (ρ i)); by_cases g : b < qB (ρ i) <;> simp [g], h3⟩
  · obtain ⟨q, h1, h2, h3⟩ := q_gt_ok h i b false true
    exact ⟨q, h1, by rw [h2]; show _ = !decide (b < qB (ρ i)); by_cases g : b < qB (ρ i) <;> simp [g], h3⟩
theorem q_cmpv_ok {ρ : Nat → Int32} {env : qE} (h : q_En ρ env) (o i : Nat) (c : Int32) : ∃ q ∈ q_cmpv o env i (qB c), q.1 = q_op o (ρ i) c ∧ q_En ρ q.2 := by
  obtain ⟨q, h1, h2, h3⟩ := q_cmpv_okN h o i (qB c)
  exact ⟨q, h1, by rw [h2, q_op_N], h3⟩
theorem q_op_flip (o : Nat) (x y : Int32) : q_op (q_flip o) x y = q_op o y x := by
  rcases o with _ | _ | _ | _ | _ | o
  · show decide (x = y) = decide (y = x); by_cases g : x = y <;> simp [g, eq_comm]
  · show (!decide (x = y)) = !decide (y = x); by_cases g : x = y <;> simp [g, eq_comm]
  all_goals rfl
theorem q_aff_ok {ρ : Nat → Int32} {env : qE} (h : q_En ρ env) (o n : Nat) {a c : Int32} (ha : a = ρ (n % 16) + qI (n / 16)) : ∃ q ∈ q_aff o env n (qB c), q.1 = q_op o a c ∧ q_En ρ q.2 := by
  have both : ∃ q ∈ ([(true, env), (false, env)] : List (Bool × qE)), q.1 = q_op o a c ∧ q_En ρ q.2 := by
    cases hq : q_op o a c
    · exact ⟨(false, env), by simp, rfl, h⟩
    · exact ⟨(true, env), by simp, rfl, h⟩
  unfold q_aff
  cases hc : (decide (0 ≤ ((q_eg env (n % 16)).1 : Int) + (qI (n / 16)).toInt) && decide (((q_eg env (n % 16)).2 : Int) + (qI (n / 16)).toInt < 4294967296) && decide (0 ≤ (qB c : Int) - (qI (n / 16)).toInt)) with
  | false => exact both
  | true =>
    simp only [Bool.and_eq_true, decide_eq_true_eq] at hc
    obtain ⟨⟨c1, c2⟩, c3⟩ := hc
    obtain ⟨g1, g2⟩ := q_eg_ok h (n % 16)
    have b1 := qB_int (ρ (n % 16))
    have b2 := qB_int a
    have ht : a.toInt = (ρ (n % 16)).toInt + (qI (n / 16)).toInt := by
      rw [ha, Int32.toInt_add, Int.bmod_def]
      omega
    obtain ⟨q, h1, h2, h3⟩ := q_cmpv_okN h o (n % 16) ((qB c : Int) - (qI (n / 16)).toInt).toNat
    refine ⟨q, h1, ?_, h3⟩
    rw [h2, q_op_N]
    generalize hw : ((qB c : Int) - (qI (n / 16)).toInt).toNat = w
    have hw2 : (w : Int) = (qB c : Int) - (qI (n / 16)).toInt := by omega
    generalize qB (ρ (n % 16)) = u at *
    generalize qB a = u2 at *
    generalize qB c = v at *
    generalize (qI (n / 16)).toInt = d at *
    have e1 : (u = w) ↔ (u2 = v) := by omega
    have e2 : (u < w) ↔ (u2 < v) := by omega
    have e3 : (w < u) ↔ (v < u2) := by omega
    rcases o with _ | _ | _ | _ | _ | o
    · exact decide_eq_decide.mpr e1
    · exact congrArg not (decide_eq_decide.mpr e1)
    · exact decide_eq_decide.mpr e2
    · exact congrArg not (decide_eq_decide.mpr e2)
    · exact decide_eq_decide.mpr e3
    · exact congrArg not (decide_eq_decide.mpr e3)
theorem q_cmp_ok {ρ : Nat → Int32} {sb : Nat × va_W} {ws : va_W} {env : qE} (h : q_En ρ env) (o : Nat) {x y : qV} {a c : Int32} (hx : q_RV ρ sb ws x (.int a)) (hy : q_RV ρ sb ws y (.int c)) : ∃ q ∈ q_cmp o env x y, q.1 = q_op o a c ∧ q_En ρ q.2 := by
  obtain ⟨t, n⟩ := x
  obtain ⟨t2, n2⟩ := y
  unfold q_cmp
  cases b1 : (Nat.beq t 0 && Nat.beq t2 0) with
  | true =>
    rw [Bool.and_eq_true] at b1
    have r1 := Nat.eq_of_beq_eq_true b1.1
    have r2 := Nat.eq_of_beq_eq_true b1.2
    subst r1; subst r2
    have e1 : a = qI n := Value.int.inj hx
    have e2 : c = qI n2 := Value.int.inj hy
    subst e1; subst e2
    exact ⟨_, List.mem_singleton.mpr rfl, rfl, h⟩
  | false =>
    simp only [cond_false]
    cases b2 : (Nat.beq t 1 && Nat.beq t2 0) with
    | true =>
      rw [Bool.and_eq_true] at b2
      have r1 := Nat.eq_of_beq_eq_true b2.1
      have r2 := Nat.eq_of_beq_eq_true b2.2
      subst r1; subst r2
      have e1 : a = ρ n := Value.int.inj hx
      have e2 : c = qI n2 := Value.int.inj hy
      subst e1; subst e2
      exact q_cmpv_ok h o n (qI n2)
    | false =>
      simp only [cond_false]
      cases b3 : (Nat.beq t 0 && Nat.beq t2 1) with
      | true =>
        rw [Bool.and_eq_true] at b3
        have r1 := Nat.eq_of_beq_eq_true b3.1
        have r2 := Nat.eq_of_beq_eq_true b3.2
        subst r1; subst r2
        have e1 : a = qI n := Value.int.inj hx
        have e2 : c = ρ n2 := Value.int.inj hy
        subst e1; subst e2
        obtain ⟨q, h1, h2, h3⟩ := q_cmpv_ok h (q_flip o) n2 (qI n)
        exact ⟨q, h1, by rw [h2, q_op_flip], h3⟩
      | false =>
        simp only [cond_false]
        cases b4 : (Nat.beq t 10 && Nat.beq t2 0) with
        | true =>
          rw [Bool.and_eq_true] at b4
          have r1 := Nat.eq_of_beq_eq_true b4.1
          have r2 := Nat.eq_of_beq_eq_true b4.2
          subst r1; subst r2
          have e2 : c = qI n2 := Value.int.inj hy
          subst e2
          exact q_aff_ok h o n (Value.int.inj hx)
        | false =>
          simp only [cond_false]
          cases b5 : (Nat.beq t 0 && Nat.beq t2 10) with
          | true =>
            rw [Bool.and_eq_true] at b5
            have r1 := Nat.eq_of_beq_eq_true b5.1
            have r2 := Nat.eq_of_beq_eq_true b5.2
            subst r1; subst r2
            have e1 : a = qI n := Value.int.inj hx
            subst e1
            obtain ⟨q, h1, h2, h3⟩ := q_aff_ok (c := qI n) h (q_flip o) n2 (Value.int.inj hy)
            exact ⟨q, h1, by rw [h2, q_op_flip], h3⟩
          | false =>
            simp only [cond_false]
            cases hq : q_op o a c
            · exact ⟨(false, env), by simp, rfl, h⟩
            · exact ⟨(true, env), by simp, rfl, h⟩
theorem q_cd_ok (x : Int32) : x = qI (q_cd (qB x)) := by
  have h1 := qB_int x
  have h2 := qB_lt x
  apply Int32.toInt_inj.mp
  unfold qI
  have hi := x.toInt_lt
  have lo := x.le_toInt
  by_cases hx : 0 ≤ x.toInt
  · have e : q_cd (qB x) = x.toInt.toNat := by unfold q_cd; omega
    rw [e, Int32.toInt_ofNat_of_lt (by omega)]
    omega
  · have e : ((q_cd (qB x) : Nat) : Int) = x.toInt + 4294967296 := by unfold q_cd; omega
    rw [Int32.toInt_ofNat']
    rw [e]
    rw [Int.bmod_def]
    have hs : ((Int32.size : Nat) : Int) = 4294967296 := rfl
    rw [hs]
    omega
theorem q_pts_mem (lo : Nat) : ∀ (n b : Nat), lo ≤ b → b < lo + n → b ∈ q_pts lo n
  | 0, b, h1, h2 => by omega
  | n + 1, b, h1, h2 => by
    show b ∈ q_pts lo n ++ [lo + n]
    by_cases hb : b < lo + n
    · exact List.mem_append_left _ (q_pts_mem lo n b h1 hb)
    · exact List.mem_append_right _ (List.mem_singleton.mpr (by omega))
theorem q_spl_ok {ρ : Nat → Int32} {sb : Nat × va_W} {ws : va_W} {env : qE} (h : q_En ρ env) {x : qV} {v : Value} (hx : q_RV ρ sb ws x v) (h1 : q_isPt env x = true) : ∃ q ∈ q_spl env x, q_En ρ q.1 ∧ q_RV ρ sb ws q.2 v := by
  obtain ⟨t, n⟩ := x
  unfold q_isPt at h1
  rw [Bool.and_eq_true] at h1
  have ht : t = 1 := Nat.eq_of_beq_eq_true h1.1
  subst ht
  have hv : v = .int (ρ n) := hx
  obtain ⟨g1, g2⟩ := q_eg_ok h n
  refine ⟨(q_iv env n (qB (ρ n)) (qB (ρ n)), (0, q_cd (qB (ρ n)))), List.mem_map.mpr ⟨qB (ρ n), q_pts_mem _ _ _ g1 (by show _ < (q_eg env n).1 + ((q_eg env n).2 + 1 - (q_eg env n).1); omega), rfl⟩, q_iv_ok h (Nat.le_refl _) (Nat.le_refl _), ?_⟩
  show v = .int (qI (q_cd (qB (ρ n))))
  rw [hv, ← q_cd_ok]
end
section
-- 05.state: an abstract state, and the machine's states that it stands for
def q_Sk (ρ : Nat → Int32) (sb : Nat × va_W) (ws : va_W) : List qV → List Value → Prop
  | [], [] => True
  | x :: xs, v :: vs => q_RV ρ sb ws x v ∧ q_Sk ρ sb ws xs vs
  | _, _ => False
def q_Ls (ρ : Nat → Int32) (sb : Nat × va_W) (ws : va_W) : qL → List (Nat × Value) → Prop
  | [], [] => True
  | x :: xs, v :: vs => x.1 = v.1 ∧ q_RV ρ sb ws x.2 v.2 ∧ q_Ls ρ sb ws xs vs
  | _, _ => False
theorem q_Sk.cons {ρ : Nat → Int32} {sb : Nat × va_W} {ws : va_W} {x : qV} {xs : List qV} {st : List Value} (h : q_Sk ρ sb ws (x :: xs) st) : ∃ v vs, st = v :: vs ∧ q_RV ρ sb ws x v ∧ q_Sk ρ sb ws xs vs := by
  cases st with
  | nil => exact (h : False).elim
  | cons v vs => exact ⟨v, vs, rfl, h.1, h.2⟩
theorem q_Sk.nil {ρ : Nat → Int32} {sb : Nat × va_W} {ws : va_W} {st : List Value} (h : q_Sk ρ sb ws [] st) : st = [] := by
  cases st with
  | nil => rfl
  | cons v vs => exact (h : False).elim
theorem q_Sk.mono {ρ : Nat → Int32} {sb : Nat × va_W} {ws ws' : va_W} (hw : q_ext ws ws') : ∀ {xs : List qV} {vs : List Value}, q_Sk ρ sb ws xs vs → q_Sk ρ sb ws' xs vs
  | [], [], _ => trivial
  | _ :: _, _ :: _, h => ⟨h.1.mono hw, q_Sk.mono hw h.2⟩
  | [], _ :: _, h => (h : False).elim
  | _ :: _, [], h => (h : False).elim
theorem q_Ls.mono {ρ : Nat → Int32} {sb : Nat × va_W} {ws ws' : va_W} (hw : q_ext ws ws') : ∀ {xs : qL} {vs : List (Nat × Value)}, q_Ls ρ sb ws xs vs → q_Ls ρ sb ws' xs vs
  | [], [], _ => trivial
  | _ :: _, _ :: _, h => ⟨h.1, h.2.1.mono hw, q_Ls.mono hw h.2.2⟩
  | [], _ :: _, h => (h : False).elim
  | _ :: _, [], h => (h : False).elim
theorem q_Sk.cats {ρ : Nat → Int32} {sb : Nat × va_W} {ws : va_W} : ∀ {xs : List qV} {vs : List Value}, q_Sk ρ sb ws xs vs → (vs.map fun v => v.category).sum = (xs.map q_cat).sum
  | [], [], _ => rfl
  | x :: xs, v :: vs, h => by
    have h1 := h.1.cat
    have h2 := q_Sk.cats h.2
    simp only [List.map_cons, List.sum_cons, h1, h2]
  | [], _ :: _, h => (h : False).elim
  | _ :: _, [], h => (h : False).elim
theorem q_Ls.lg {ρ : Nat → Int32} {sb : Nat × va_W} {ws : va_W} {i : Nat} {x : qV} : ∀ {lv : qL} {cl : List (Nat × Value)}, q_Ls ρ sb ws lv cl → q_lg lv i = some x → ∃ v, (i, v) ∈ cl ∧ q_RV ρ sb ws x v
  | [], [], _, hx => by cases hx
  | a :: lv, c :: cl, h, hx => by
    unfold q_lg at hx
    rw [List.find?_cons] at hx
    cases hb : Nat.beq a.1 i with
    | true =>
      rw [hb] at hx
      have e : a.2 = x := Option.some.inj hx
      have ei : a.1 = i := Nat.eq_of_beq_eq_true hb
      refine ⟨c.2, ?_, by rw [← e]; exact h.2.1⟩
      rw [← ei, h.1]
      exact List.mem_cons_self
    | false =>
      rw [hb] at hx
      obtain ⟨v, h1, h2⟩ := q_Ls.lg (lv := lv) (cl := cl) h.2.2 hx
      exact ⟨v, List.mem_cons_of_mem _ h1, h2⟩
  | [], _ :: _, h, _ => (h : False).elim
  | _ :: _, [], h, _ => (h : False).elim
theorem q_Ls.filter {ρ : Nat → Int32} {sb : Nat × va_W} {ws : va_W} {f : Nat × qV → Bool} {g : Nat × Value → Bool} (hfg : ∀ a c, a.1 = c.1 → q_RV ρ sb ws a.2 c.2 → f a = g c) : ∀ {lv : qL} {cl : List (Nat × Value)}, q_Ls ρ sb ws lv cl → q_Ls ρ sb ws (lv.filter f) (cl.filter g)
  | [], [], _ => trivial
  | a :: lv, c :: cl, h => by
    rw [List.filter_cons, List.filter_cons, hfg a c h.1 h.2.1]
    have h2 := q_Ls.filter hfg h.2.2
    cases g c
    · exact h2
    · exact ⟨h.1, h.2.1, h2⟩
  | [], _ :: _, h => (h : False).elim
  | _ :: _, [], h => (h : False).elim
def q_aT (k : Nat) : Option FieldType := if k = 100 then some .int else if k = 101 then some .byte else if k = 102 then some .boolean else none
def q_rT (k : Nat) (ty : FieldType) : Prop := (∃ ci r, k = 200 + ci ∧ k < 300 ∧ vwCl[ci]? = some r ∧ ty = .object r.1) ∨ (k = 300 ∧ ty = .array .int)
/-- a cell -/
def q_Rc (ρ : Nat → Int32) (sb : Nat × va_W) (ws : va_W) (tys : List (ClassId × FieldType)) (c : qC) (e : va_E) : Prop :=
  (c.1 < 100 ∧ ∃ fs : List Value, e = .inr (c.1, fs) ∧ fs.length = c.2.1 ∧ ∀ (j : Nat) (v : Value), fs[j]? = some v → q_RV ρ sb ws (c.2.2.get j) v) ∨
  (∃ ty, q_aT c.1 = some ty ∧ ∃ (cA : ClassId) (f : Nat → Int32) (t0 : Nat), e = .inl (cA, c.2.1, .inl f) ∧ tys[t0]? = some (cA, ty) ∧ ∀ j, j < c.2.1 → q_RV ρ sb ws (c.2.2.get j) (.int (f j))) ∨
  (c.1 = 103 ∧ ∃ (cA : ClassId) (f : Nat → Int64) (t0 : Nat), e = .inl (cA, c.2.1, .inr (.inl f)) ∧ tys[t0]? = some (cA, .long) ∧ ∀ j, j < c.2.1 → q_RV ρ sb ws (c.2.2.get j) (.long (f j))) ∨
  (∃ ty, q_rT c.1 ty ∧ ∃ (cA : ClassId) (f : Nat → Option Nat) (t0 : Nat), e = .inl (cA, c.2.1, .inr (.inr (.inr (.inr f)))) ∧ tys[t0]? = some (cA, ty) ∧ ∀ j, j < c.2.1 → q_RV ρ sb ws (c.2.2.get j) (va_rf (f j)))
theorem q_aT_k {k : Nat} {ty : FieldType} (h : q_aT k = some ty) : (k = 100 ∧ ty = .int) ∨ (k = 101 ∧ ty = .byte) ∨ (k = 102 ∧ ty = .boolean) := by
  unfold q_aT at h
  by_cases h1 : k = 100
  · rw [if_pos h1] at h; cases h; exact Or.inl ⟨h1, rfl⟩
  · rw [if_neg h1] at h
    by_cases h2 : k = 101
    · rw [if_pos h2] at h; cases h; exact Or.inr (Or.inl ⟨h2, rfl⟩)
    · rw [if_neg h2] at h
      by_cases h3 : k = 102
      · rw [if_pos h3] at h; cases h; exact Or.inr (Or.inr ⟨h3, rfl⟩)
      · rw [if_neg h3] at h; cases h
theorem q_rT_k {k : Nat} {ty : FieldType} (h : q_rT k ty) : 200 ≤ k := by
  rcases h with ⟨ci, r, h1, -⟩ | ⟨h1, -⟩ <;> omega
section
variable {ρ : Nat → Int32} {sb : Nat × va_W} {ws ws' : va_W} {tys tys' : List (ClassId × FieldType)} {c : qC} {e : va_E}
theorem q_Rc.obj (h : q_Rc ρ sb ws tys c e) (hk : c.1 < 100) : ∃ fs : List Value, e = .inr (c.1, fs) ∧ fs.length = c.2.1 ∧ ∀ (j : Nat) (v : Value), fs[j]? = some v → q_RV ρ sb ws (c.2.2.get j) v := by
  rcases h with h | ⟨ty, h, -⟩ | ⟨h, -⟩ | ⟨ty, h, -⟩
  · exact h.2
  · have := q_aT_k h; omega
  · omega
  · have := q_rT_k h; omega
theorem q_Rc.ia (h : q_Rc ρ sb ws tys c e) {ty : FieldType} (hk : q_aT c.1 = some ty) : ∃ (cA : ClassId) (f : Nat → Int32) (t0 : Nat), e = .inl (cA, c.2.1, .inl f) ∧ tys[t0]? = some (cA, ty) ∧ ∀ j, j < c.2.1 → q_RV ρ sb ws (c.2.2.get j) (.int (f j)) := by
  have hk2 := q_aT_k hk
  rcases h with ⟨h, -⟩ | ⟨ty', h, h2⟩ | ⟨h, -⟩ | ⟨ty', h, -⟩
  · omega
  · rw [hk] at h; cases h; exact h2
  · omega
  · have := q_rT_k h; omega
theorem q_Rc.la (h : q_Rc ρ sb ws tys c e) (hk : c.1 = 103) : ∃ (cA : ClassId) (f : Nat → Int64) (t0 : Nat), e = .inl (cA, c.2.1, .inr (.inl f)) ∧ tys[t0]? = some (cA, .long) ∧ ∀ j, j < c.2.1 → q_RV ρ sb ws (c.2.2.get j) (.long (f j)) := by
  rcases h with ⟨h, -⟩ | ⟨ty', h, -⟩ | h | ⟨ty', h, -⟩
  · omega
  · have := q_aT_k h; omega
  · exact h.2
  · have := q_rT_k h; omega
theorem q_Rc.ra (h : q_Rc ρ sb ws tys c e) (hk : 200 ≤ c.1) : ∃ ty, q_rT c.1 ty ∧ ∃ (cA : ClassId) (f : Nat → Option Nat) (t0 : Nat), e = .inl (cA, c.2.1, .inr (.inr (.inr (.inr f)))) ∧ tys[t0]? = some (cA, ty) ∧ ∀ j, j < c.2.1 → q_RV ρ sb ws (c.2.2.get j) (va_rf (f j)) := by
  rcases h with ⟨h, -⟩ | ⟨ty', h, -⟩ | ⟨h, -⟩ | h
  · omega
  · have := q_aT_k h; omega
  · omega
  · exact h
theorem q_Rc.mono (hw : q_ext ws ws') (ht : ∀ (t : Nat) x, tys[t]? = some x → tys'[t]? = some x) (h : q_Rc ρ sb ws tys c e) : q_Rc ρ sb ws' tys' c e := by
  rcases h with ⟨h, fs, h1, h2, h3⟩ | ⟨ty, h, cA, f, t0, h1, h2, h3⟩ | ⟨h, cA, f, t0, h1, h2, h3⟩ | ⟨ty, h, cA, f, t0, h1, h2, h3⟩
  · exact Or.inl ⟨h, fs, h1, h2, fun j v hj => (h3 j v hj).mono hw⟩
  · exact Or.inr (Or.inl ⟨ty, h, cA, f, t0, h1, ht _ _ h2, fun j hj => (h3 j hj).mono hw⟩)
  · exact Or.inr (Or.inr (Or.inl ⟨h, cA, f, t0, h1, ht _ _ h2, fun j hj => (h3 j hj).mono hw⟩))
  · exact Or.inr (Or.inr (Or.inr ⟨ty, h, cA, f, t0, h1, ht _ _ h2, fun j hj => (h3 j hj).mono hw⟩))
def q_Hp (ρ : Nat → Int32) (sb : Nat × va_W) (h : qH) (ws : va_W) (tys : List (ClassId × FieldType)) : Prop := ws.length = h.2 ∧ h.2 ≤ 1024 ∧ (∀ (k a : Nat) (e : va_E), ws[k]? = some (a, e) → q_Rc ρ sb ws tys (h.1.get k) e) ∧ q_ext sb.2 ws
theorem q_Hp.at' {h : qH} (hH : q_Hp ρ sb h ws tys) {k : Nat} (hk : k < h.2) : ∃ a e, ws[k]? = some (a, e) ∧ q_Rc ρ sb ws tys (h.1.get k) e := by
  have hl : k < ws.length := by rw [hH.1]; exact hk
  have hg : ws[k]? = some (ws[k]) := List.getElem?_eq_getElem hl
  exact ⟨ws[k].1, ws[k].2, hg, hH.2.2.1 k _ _ hg⟩
theorem q_Hp.put {h : qH} (hH : q_Hp ρ sb h ws tys) {k a : Nat} {e e1 : va_E} (hk : ws[k]? = some (a, e)) {c1 : qC} (hc : q_Rc ρ sb ws tys c1 e1) : q_Hp ρ sb (q_ts c1 k h.1 0 1024, h.2) (ws.set k (a, e1)) tys := by
  obtain ⟨h1, h2, h3, h4⟩ := hH
  have hl : k < ws.length := (List.getElem?_eq_some_iff.mp hk).1
  refine ⟨by rw [List.length_set]; exact h1, h2, fun j b e2 hj => ?_, h4.tr (q_ext.set hk)⟩
  have hjl : j < ws.length := by
    have := (List.getElem?_eq_some_iff.mp hj).1
    rwa [List.length_set] at this
  show q_Rc ρ sb _ tys ((q_ts c1 k h.1 0 1024).get j) e2
  rw [q_ts_get c1 k h.1 0 1024 j (Nat.zero_le _) (by omega) (Nat.zero_le _) (by omega)]
  by_cases hjk : j = k
  · subst hjk
    rw [List.getElem?_set_self hl] at hj
    cases hj
    rw [if_pos rfl]
    exact hc.mono (q_ext.set hk) (fun _ _ q => q)
  · rw [List.getElem?_set_ne (Ne.symm hjk)] at hj
    rw [if_neg hjk]
    exact (h3 j b e2 hj).mono (q_ext.set hk) (fun _ _ q => q)
theorem q_tyapp {t : List (ClassId × FieldType)} : ∀ (i : Nat) x, tys[i]? = some x → (tys ++ t)[i]? = some x := fun i x h => by rw [List.getElem?_append_left (List.getElem?_eq_some_iff.mp h).1]; exact h
theorem q_Hp.push {h : qH} (hH : q_Hp ρ sb h ws tys) (hn : h.2 < 1024) {q : Nat} {e1 : va_E} {t : List (ClassId × FieldType)} {c1 : qC} (hc : q_Rc ρ sb (ws ++ [(q, e1)]) (tys ++ t) c1 e1) : q_Hp ρ sb (q_ts c1 h.2 h.1 0 1024, h.2 + 1) (ws ++ [(q, e1)]) (tys ++ t) := by
  obtain ⟨h1, h2, h3, h4⟩ := hH
  refine ⟨by rw [List.length_append, h1]; rfl, hn, fun j b e2 hj => ?_, h4.tr q_ext.app⟩
  have hjl : j < ws.length + 1 := by
    have := (List.getElem?_eq_some_iff.mp hj).1
    rwa [List.length_append] at this
  show q_Rc ρ sb _ _ ((q_ts c1 h.2 h.1 0 1024).get j) e2
  rw [q_ts_get c1 h.2 h.1 0 1024 j (Nat.zero_le _) (by omega) (Nat.zero_le _) (by omega)]
  by_cases hjk : j = h.2
  · rw [if_pos hjk]
    rw [List.getElem?_append_right (by omega), hjk, h1, Nat.sub_self] at hj
    cases hj
    exact hc
  · rw [if_neg hjk]
    rw [List.getElem?_append_left (by omega)] at hj
    exact (h3 j b e2 hj).mono q_ext.app q_tyapp
end
end
section
-- 06.sound: each step of the abstract machine is the machine's
def q_tyOk (code : Nat) (ty : FieldType) : Prop := match code with
  | 0 => ty = .int
  | 1 => ty = .boolean
  | 2 => ty = .long
  | 3 => (∃ n, ty = .object n) ∨ ∃ t, ty = .array t
  | _ => False
def q_lnk (v b : Nat) (P : vw_C → Prop) : Prop := ∃ r : vw_C, vwCl[v]? = some r ∧ b < r.2.2 ∧ P r
/-- the words that an instruction wants -/
def q_ok (own : String) (init : Bool) (e : qN) : Prop := match e.1 with
  | 0 => (match q_v e with
    | 4 => Cond.constant own (q_a e) (qI (q_b e)) ∈ qWS
    | 5 => Cond.constant own (q_a e) (qI (q_b e)) ∈ qWS
    | 6 => Cond.constantLong own (q_a e) (qJ (q_b e)) ∈ qWS
    | 7 => ∃ tx, Cond.stringRef own (q_a e) tx ∈ qSP
    | _ => True)
  | 1 => q_v e = 0 ∨ q_v e = 2 ∨ q_v e = 4 → q_a e < 4
  | 2 => q_v e = 0 ∨ q_v e = 2 ∨ q_v e = 4 → q_a e < 4
  | 14 => q_lnk (q_v e) (q_b e) fun r => Cond.fieldLink own (q_a e) (r.2.1 (q_b e)).1 (r.2.1 (q_b e)).2.1 (r.2.1 (q_b e)).2.2.1 ∈ qWS
  | 15 => q_lnk (q_v e) (q_b e) fun r => Cond.fieldLink own (q_a e) (r.2.1 (q_b e)).1 (r.2.1 (q_b e)).2.1 (r.2.1 (q_b e)).2.2.1 ∈ qWS ∧ (∃ ty, parseFieldDescriptor (r.2.1 (q_b e)).2.2.1 = some ty ∧ q_tyOk ((q_t e).getD 0 9) ty) ∧ ((r.2.1 (q_b e)).2.2.2 = true → init = true ∧ (r.2.1 (q_b e)).1 = own)
  | 16 => Cond.arrayClass (newarray.typeOf (q_aty (q_v e))) ∈ qWS ∧ q_v e ≤ 3
  | 17 => q_lnk (q_v e) 0 fun r => q_v e < 100 ∧ Cond.classLink own (q_a e) r.1 ∈ qWS ∧ Cond.arrayOver (.object r.1) ∈ qSP
  | 18 => Cond.classLink own (q_a e) ("[" ++ (FieldType.array .int).toString) ∈ qWS ∧ Cond.arrayOver (.array .int) ∈ qSP ∧ Cond.arrayClass .int ∈ qWS
  | 22 => ∃ r : vw_C, vwCl[q_v e]? = some r ∧ q_v e < 100 ∧ r.2.2 = (q_t e).length ∧ Cond.classLink own (q_a e) r.1 ∈ qWS ∧ Cond.instantiable r.1 r.2.2 ∈ qWS ∧ Cond.initialized r.1 ∈ qWS ∧ ∀ j, j < r.2.2 → ∃ ty, parseFieldDescriptor (r.2.1 j).2.2.1 = some ty ∧ q_tyOk ((q_t e).getD j 9) ty
  | 25 => Cond.methodLink own (q_a e) Lib.objectInit ∈ qWS ∧ Cond.instanceMethod Lib.objectInit ∈ qWS ∧ Cond.code Lib.objectInit ⟨#[0xb1]⟩ 1 none ∈ qWS
  | 26 => Cond.methodLink own (q_a e) arraycopyName ∈ qWS ∧ Cond.native arraycopyName ∈ qWS ∧ Cond.static arraycopyName ∈ qWS ∧ Cond.initialized "java/lang/System" ∈ qWS
  | _ => True
/-- the words by themselves -/
def q_XW (U : State) : Prop := ∀ w ∈ qSP, va_Nw w U
def q_Cx (p : Program) (R : Room) (s : State) (m : MethodId) (args : Array Value) (meth : Method) (c : Code) (A : Nat → Prop) (ρ : Nat → Int32) (sb : Nat × va_W) (mc ms : Nat) (scr : Bool) (L : Nat) (own : String) (bytes : ByteArray) (maxL : Nat) (init : Bool) : Prop :=
  p.tables.exec = Jvm.exec ∧ c.code = bytes ∧ c.maxLocals = maxL ∧ s.vm.findClass own = some m.cls ∧ (∀ w ∈ qWS, w.before args s = true) ∧ q_XW s ∧ (∀ q, s.heap.size ≤ q → A q) ∧ (init = true → meth.name = "<init>") ∧
    (scr = true → va_X sb.1 L ρ s s.heap ∧ sb.1 < s.heap.size ∧ ¬ A sb.1) ∧ mc ≤ R.cells ∧ ms ≤ R.slots ∧ 1 ≤ R.frames ∧ 100 ≤ R.locals
def q_St (D : va_G) (A : Nat → Prop) (s : State) (ρ : Nat → Int32) (sb : Nat × va_W) (maxL : Nat) (env : qE) (h : qH) (lv : qL) (stk : List qV) (ws : va_W) (tys : List (ClassId × FieldType)) (H : Heap) (locs : List Loc) (ls : Array Slot) (st : List Value) : Prop :=
  q_En ρ env ∧ q_Hp ρ sb h ws tys ∧ va_P D vwCl ws H ∧ va_D A ws ∧ va_K D vwCl tys s ∧ va_S A s.heap H locs ∧ (∃ cl, lv_has ls maxL cl ∧ q_Ls ρ sb ws lv cl) ∧ q_Sk ρ sb ws stk st
section
variable {p : Program} {l : Launch} {e0 : Env} {R : Room} {s : State} {m : MethodId} {args : Array Value} {below : List Frame} {meth : Method} {c : Code} {Q : State → Prop}
variable {D : va_G} {A : Nat → Prop} {ρ : Nat → Int32} {sb : Nat × va_W} {mc ms : Nat} {scr : Bool} {L : Nat} {own : String} {bytes : ByteArray} {maxL : Nat} {init : Bool}
variable {e : qN} {env : qE} {h : qH} {k sl : Nat} {lv : qL} {stk : List qV} {nx : List qF}
/-- from every state that is like this one the end is come to -/
def q_WW (p : Program) (l : Launch) (e0 : Env) (R : Room) (s : State) (m : MethodId) (args : Array Value) (below : List Frame) (meth : Method) (c : Code) (Q : State → Prop) (D : va_G) (A : Nat → Prop) (ρ : Nat → Int32) (sb : Nat × va_W) (maxL : Nat) (fr : qF) : Prop :=
  ∀ (ws : va_W) (tys : List (ClassId × FieldType)) (H : Heap) (locs : List Loc) (ls : Array Slot) (st : List Value), q_St D A s ρ sb maxL fr.1 fr.2.1 fr.2.2.2.2.2.1 fr.2.2.2.2.2.2 ws tys H locs ls st →
    W p l e0 R s m args below meth c H locs fr.2.2.1 fr.2.2.2.1 Q (F0 m fr.2.2.2.2.1 ls st)
theorem q_go_in {pc : Nat} {P : qF → Prop} (hs : q_go env h k sl pc lv stk = some nx) (hn : ∀ fr ∈ nx, P fr) : P (env, h, k, sl, pc, lv, stk) := by
  unfold q_go at hs
  rw [q_fc_eq] at hs
  cases hs
  exact hn _ (List.mem_singleton.mpr rfl)
theorem q_gv_in {pc t n : Nat} {P : qF → Prop} (hs : q_gv env h k sl pc lv t n stk = some nx) (hn : ∀ fr ∈ nx, P fr) : P (env, h, k, sl, pc, lv, (t, n) :: stk) := by
  unfold q_gv at hs
  rw [q_fc_eq] at hs
  exact q_go_in hs hn
theorem q_gh_in {pc : Nat} {P : qF → Prop} (hs : q_gh env h k sl pc lv stk = some nx) (hn : ∀ fr ∈ nx, P fr) : P (env, h, k, sl, pc, lv, stk) := by
  unfold q_gh q_opn at hs
  obtain ⟨t, n⟩ := h
  cases t with
  | leaf a => exact q_go_in hs hn
  | branch p l r => exact q_go_in hs hn
theorem q_bt {α : Type} {b : Bool} {x : Option α} {y : α} (h : (bif b then x else none) = some y) : b = true ∧ x = some y := by
  cases b
  · cases h
  · exact ⟨rfl, h⟩
theorem q_ok0 (C : q_Cx p R s m args meth c A ρ sb mc ms scr L own bytes maxL init) (hok : q_ok own init e) (hdec : decode bytes (q_pc e) = .ok (q_ins e)) (hop : e.1 = 0) (hs : q_s0 e env h k sl lv stk = some nx) (hn : ∀ fr ∈ nx, q_WW p l e0 R s m args below meth c Q D A ρ sb maxL fr) : q_WW p l e0 R s m args below meth c Q D A ρ sb maxL (env, h, k, sl, q_pc e, lv, stk) := by
  obtain ⟨op, pc, v, a, b, w, t⟩ := e
  subst hop
  obtain ⟨hx, hb, hml, hown, hts, hsp, hA, hin, hscr, hmc, hms, hR1, hR2⟩ := C
  have hg := q_gv_in hs hn
  intro ws tys H locs ls st ⟨hE, hH, hP, hD, hK, hS, hL, hT⟩
  have hgo : ∀ (x : Value), q_RV ρ sb ws ((q_s0v v a b).1, (q_s0v v a b).2) x → W p l e0 R s m args below meth c H locs k sl Q (F0 m (pc + (q_ins0 v a b).2) ls (x :: st)) := fun x hxv => hg ws tys H locs ls (x :: st) ⟨hE, hH, hP, hD, hK, hS, hL, hxv, hT⟩
  rcases v with _ | _ | _ | _ | _ | _ | _ | _ | v
  · exact lv_iconst hx hb hdec rfl (hgo _ (by show _ = Value.int (qI (qNn _)); rw [qI_N]))
  · exact lv_bipush hx hb hdec rfl (hgo _ (by show _ = Value.int (qI (qNn _)); rw [qI_N]))
  · exact lv_sipush hx hb hdec rfl (hgo _ (by show _ = Value.int (qI (qNn _)); rw [qI_N]))
  · exact lv_lconst hx hb hdec rfl (hgo _ (by show _ = Value.long (qJ (qMn _)); rw [qJ_M]))
  · exact lv_ldc hx hb hown (hts _ hok) hdec (hgo _ rfl)
  · exact lv_ldcw hx hb hown (hts _ hok) hdec (hgo _ rfl)
  · exact lv_ldc2 hx hb hown (hts _ hok) hdec (hgo _ rfl)
  · obtain ⟨tx, hw⟩ := (hok : ∃ tx, Cond.stringRef own a tx ∈ qSP)
    have h1 : (Cond.stringRef own a tx).before #[] s = true := hsp _ hw
    obtain ⟨_, _, _, q, _, _, _, _, _, h2⟩ := Cond.stringRef_spec hown h1
    exact va_ldcS hx hb hown ⟨h1, h2⟩ hdec (hgo _ ⟨q, rfl⟩)
  · exact lv_null hx hb hdec (hgo _ rfl)
theorem q_ok1 (C : q_Cx p R s m args meth c A ρ sb mc ms scr L own bytes maxL init) (hok : q_ok own init e) (hdec : decode bytes (q_pc e) = .ok (q_ins e)) (hop : e.1 = 1) (hs : q_s1 e env h k sl lv stk = some nx) (hn : ∀ fr ∈ nx, q_WW p l e0 R s m args below meth c Q D A ρ sb maxL fr) : q_WW p l e0 R s m args below meth c Q D A ρ sb maxL (env, h, k, sl, q_pc e, lv, stk) := by
  obtain ⟨op, pc, v, a, b, w, t⟩ := e
  subst hop
  obtain ⟨hx, hb, hml, hown, hts, hsp, hA, hin, hscr, hmc, hms, hR1, hR2⟩ := C
  unfold q_s1 at hs
  cases hlg : q_lg lv a with
  | none => simp only [hlg] at hs; cases hs
  | some x =>
    simp only [hlg] at hs
    obtain ⟨hk, hs⟩ := q_bt hs
    have hk := Nat.eq_of_beq_eq_true hk
    have hg := q_go_in hs hn
    intro ws tys H locs ls st ⟨hE, hH, hP, hD, hK, hS, hL, hT⟩
    obtain ⟨cl, hl, hLs⟩ := hL
    obtain ⟨x1, hm1, hxv⟩ := hLs.lg hlg
    have hla : ls[a]? = some (.val x1) := hl.2.2 (a, x1) hm1
    have hgo : W p l e0 R s m args below meth c H locs k sl Q (F0 m (pc + (q_ins1 v a).2) ls (x1 :: st)) := hg ws tys H locs ls (x1 :: st) ⟨hE, hH, hP, hD, hK, hS, ⟨cl, hl, hLs⟩, hxv, hT⟩
    have hfin : v = 0 ∨ v = 2 ∨ v = 4 → ((q_fin4 a : Fin 4) : Nat) = a := fun hv => Nat.mod_eq_of_lt (hok hv)
    rcases v with _ | _ | _ | _ | _ | v
    · obtain ⟨c1, rfl⟩ := hxv.int hk; exact lv_iload_n hx hb hdec (hfin (by simp)) hla hgo
    · obtain ⟨c1, rfl⟩ := hxv.int hk; exact lv_iload hx hb hdec hla hgo
    · obtain ⟨c1, rfl⟩ := hxv.long hk; exact lv_lload_n hx hb hdec (hfin (by simp)) hla hgo
    · obtain ⟨c1, rfl⟩ := hxv.long hk; exact lv_lload hx hb hdec hla hgo
    · rcases hxv.rf hk with ⟨-, rfl⟩ | ⟨-, c1, rfl⟩
      · exact lv_aload_nN hx hb hdec (hfin (by simp)) hla hgo
      · exact lv_aload_n hx hb hdec (hfin (by simp)) hla hgo
    · rcases hxv.rf hk with ⟨-, rfl⟩ | ⟨-, c1, rfl⟩
      · exact lv_aloadN hx hb hdec hla hgo
      · exact lv_aload hx hb hdec hla hgo
theorem q_ls_in {i : Nat} {x : qV} {P : qF → Prop} {pc : Nat} (hs : (q_ls lv i x fun lv => q_go env h k sl pc lv stk) = some nx) (hn : ∀ fr ∈ nx, P fr) : P (env, h, k, sl, pc, (bif Nat.beq (q_cat x) 2 then q_ls2 lv i x else q_ls1 lv i x), stk) := by
  unfold q_ls at hs
  rw [q_nrm_eq] at hs
  exact q_go_in hs hn
theorem q_Ls.set1 {ws : va_W} {cl : List (Nat × Value)} {i : Nat} {x : qV} {v : Value} (hL : q_Ls ρ sb ws lv cl) (hx : q_RV ρ sb ws x v) : q_Ls ρ sb ws (q_ls1 lv i x) ((i, v) :: cl.filter (fun q => !(q.1 == i) && !(q.1 + 1 == i && q.2.category == 2))) := by
  refine ⟨rfl, hx, hL.filter fun a c h1 h2 => ?_⟩
  rw [h1, h2.cat]
  simp only [q_beq]
  rfl
theorem q_Ls.set2 {ws : va_W} {cl : List (Nat × Value)} {i : Nat} {x : qV} {v : Value} (hL : q_Ls ρ sb ws lv cl) (hx : q_RV ρ sb ws x v) : q_Ls ρ sb ws (q_ls2 lv i x) ((i, v) :: cl.filter (fun q => !(q.1 == i) && (!(q.1 == i + 1) && !(q.1 + 1 == i && q.2.category == 2)))) := by
  refine ⟨rfl, hx, hL.filter fun a c h1 h2 => ?_⟩
  rw [h1, h2.cat]
  simp only [q_beq]
  rfl
theorem q_cat_k {x : qV} : (q_knd x = 1 → q_cat x = 2) ∧ (q_knd x ≠ 1 → q_cat x = 1) := by
  unfold q_cat
  rw [q_beq]
  by_cases hk : q_knd x = 1 <;> simp [hk]
theorem q_ok2 (C : q_Cx p R s m args meth c A ρ sb mc ms scr L own bytes maxL init) (hok : q_ok own init e) (hdec : decode bytes (q_pc e) = .ok (q_ins e)) (hop : e.1 = 2) (hs : q_s2 maxL e env h k sl lv stk = some nx) (hn : ∀ fr ∈ nx, q_WW p l e0 R s m args below meth c Q D A ρ sb maxL fr) : q_WW p l e0 R s m args below meth c Q D A ρ sb maxL (env, h, k, sl, q_pc e, lv, stk) := by
  obtain ⟨op, pc, v, a, b, w, t⟩ := e
  subst hop
  obtain ⟨hx, hb, hml, hown, hts, hsp, hA, hin, hscr, hmc, hms, hR1, hR2⟩ := C
  unfold q_s2 at hs
  cases stk with
  | nil => cases hs
  | cons x stk =>
    obtain ⟨hk, hs⟩ := q_bt hs
    rw [Bool.and_eq_true, q_blt] at hk
    obtain ⟨hk, hlt⟩ := hk
    have hk := Nat.eq_of_beq_eq_true hk
    have hlt := of_decide_eq_true hlt
    have hg := q_ls_in hs hn
    intro ws tys H locs ls st ⟨hE, hH, hP, hD, hK, hS, ⟨cl, hl, hLs⟩, hT⟩
    obtain ⟨x1, st, rfl, hxv, hT⟩ := hT.cons
    have hfin : v = 0 ∨ v = 2 ∨ v = 4 → ((q_fin4 a : Fin 4) : Nat) = a := fun hv => Nat.mod_eq_of_lt (hok hv)
    have hg1 : q_knd x ≠ 1 → ∀ ls' : Array Slot, lv_has ls' maxL ((a, x1) :: cl.filter (fun q => !(q.1 == a) && !(q.1 + 1 == a && q.2.category == 2))) → W p l e0 R s m args below meth c H locs k sl Q (F0 m (pc + (q_ins2 v a).2) ls' st) := fun hne ls' hl' => by
      refine hg ws tys H locs ls' st ⟨hE, hH, hP, hD, hK, hS, ⟨_, hl', ?_⟩, hT⟩
      have e1 : Nat.beq (q_cat x) 2 = false := by rw [q_cat_k.2 hne]; rfl
      show q_Ls ρ sb ws (bif Nat.beq (q_cat x) 2 then q_ls2 lv a x else q_ls1 lv a x) _
      rw [e1]
      exact hLs.set1 hxv
    have hg2 : q_knd x = 1 → ∀ ls' : Array Slot, lv_has ls' maxL ((a, x1) :: cl.filter (fun q => !(q.1 == a) && (!(q.1 == a + 1) && !(q.1 + 1 == a && q.2.category == 2)))) → W p l e0 R s m args below meth c H locs k sl Q (F0 m (pc + (q_ins2 v a).2) ls' st) := fun hne ls' hl' => by
      refine hg ws tys H locs ls' st ⟨hE, hH, hP, hD, hK, hS, ⟨_, hl', ?_⟩, hT⟩
      have e1 : Nat.beq (q_cat x) 2 = true := by rw [q_cat_k.1 hne]; rfl
      show q_Ls ρ sb ws (bif Nat.beq (q_cat x) 2 then q_ls2 lv a x else q_ls1 lv a x) _
      rw [e1]
      exact hLs.set2 hxv
    have l1 : q_knd x ≠ 1 → a < maxL := fun hne => by have := q_cat_k.2 hne; simp only [q_a] at hlt; omega
    have l2 : q_knd x = 1 → a + 1 < maxL := fun hne => by have := q_cat_k.1 hne; simp only [q_a] at hlt; omega
    rcases v with _ | _ | _ | _ | _ | v
    · have hne : q_knd x ≠ 1 := fun q => absurd (show (0 : Nat) = 1 from hk.symm.trans q) (by decide)
      obtain ⟨c1, rfl⟩ := hxv.int hk; exact lv_istore_n hx hb hdec (hfin (by simp)) hl (l1 hne) rfl (hg1 hne)
    · have hne : q_knd x ≠ 1 := fun q => absurd (show (0 : Nat) = 1 from hk.symm.trans q) (by decide)
      obtain ⟨c1, rfl⟩ := hxv.int hk; exact lv_istore hx hb hdec hl (l1 hne) rfl (hg1 hne)
    · obtain ⟨c1, rfl⟩ := hxv.long hk; exact lv_lstore_n hx hb hdec (hfin (by simp)) hl (l2 hk) rfl (hg2 hk)
    · obtain ⟨c1, rfl⟩ := hxv.long hk; exact lv_lstore hx hb hdec hl (l2 hk) rfl (hg2 hk)
    · have hne : q_knd x ≠ 1 := fun q => absurd (show (2 : Nat) = 1 from hk.symm.trans q) (by decide)
      rcases hxv.rf hk with ⟨-, rfl⟩ | ⟨-, c1, rfl⟩
      · exact lv_astore_nN hx hb hdec (hfin (by simp)) hl (l1 hne) rfl (hg1 hne)
      · exact lv_astore_n hx hb hdec (hfin (by simp)) hl (l1 hne) rfl (hg1 hne)
    · have hne : q_knd x ≠ 1 := fun q => absurd (show (2 : Nat) = 1 from hk.symm.trans q) (by decide)
      rcases hxv.rf hk with ⟨-, rfl⟩ | ⟨-, c1, rfl⟩
      · exact lv_astoreN hx hb hdec hl (l1 hne) rfl (hg1 hne)
      · exact lv_astore hx hb hdec hl (l1 hne) rfl (hg1 hne)
end
end
section
-- 07.sound: arithmetic, compares, branches
section
variable {p : Program} {l : Launch} {e0 : Env} {R : Room} {s : State} {m : MethodId} {args : Array Value} {below : List Frame} {meth : Method} {c : Code} {Q : State → Prop}
variable {D : va_G} {A : Nat → Prop} {ρ : Nat → Int32} {sb : Nat × va_W} {mc ms : Nat} {scr : Bool} {L : Nat} {own : String} {bytes : ByteArray} {maxL : Nat} {init : Bool}
variable {e : qN} {env : qE} {h : qH} {k sl : Nat} {lv : qL} {stk : List qV} {nx : List qF}
variable {H : Heap} {locs : List Loc} {pc : Nat} {ls : Array Slot} {rest : List Value}
theorem q_ok3 (C : q_Cx p R s m args meth c A ρ sb mc ms scr L own bytes maxL init) (hok : q_ok own init e) (hdec : decode bytes (q_pc e) = .ok (q_ins e)) (hop : e.1 = 3) (hs : q_s3 maxL e env h k sl lv stk = some nx) (hn : ∀ fr ∈ nx, q_WW p l e0 R s m args below meth c Q D A ρ sb maxL fr) : q_WW p l e0 R s m args below meth c Q D A ρ sb maxL (env, h, k, sl, q_pc e, lv, stk) := by
  obtain ⟨op, pc, v, a, b, w, t⟩ := e
  subst hop
  obtain ⟨hx, hb, hml, hown, hts, hsp, hA, hin, hscr, hmc, hms, hR1, hR2⟩ := C
  unfold q_s3 at hs
  cases hlg : q_lg lv a with
  | none => simp only [hlg] at hs; cases hs
  | some x =>
    simp only [hlg] at hs
    obtain ⟨hk, hs⟩ := q_bt hs
    rw [Bool.and_eq_true, q_blt] at hk
    obtain ⟨hk, hlt⟩ := hk
    have hk := Nat.eq_of_beq_eq_true hk
    have hlt : a < maxL := of_decide_eq_true hlt
    intro ws tys H locs ls st ⟨hE, hH, hP, hD, hK, hS, hL, hT⟩
    obtain ⟨cl, hl, hLs⟩ := hL
    obtain ⟨x1, hm1, hxv⟩ := hLs.lg hlg
    obtain ⟨c1, rfl⟩ := hxv.int hk
    obtain ⟨j, hj⟩ := List.getElem?_of_mem hm1
    refine lv_iinc hx hb hdec hl hj rfl hlt rfl fun ls' hl' => ?_
    cases hb0 : Nat.beq x.1 0 with
    | true =>
      rw [hb0] at hs
      have hs : (q_fc (qNn (qI x.2 + Int32.ofInt (q_sgn b v))) fun n => q_ls lv a (0, n) fun lv => q_go env h k sl (pc + 3) lv stk) = some nx := hs
      rw [q_fc_eq] at hs
      have hg := q_ls_in hs hn
      refine hg ws tys H locs ls' st ⟨hE, hH, hP, hD, hK, hS, ⟨_, hl', ?_⟩, hT⟩
      refine hLs.set1 ?_
      have ht0 : x.1 = 0 := Nat.eq_of_beq_eq_true hb0
      have hc1 : Value.int c1 = .int (qI x.2) := by
        obtain ⟨x1, x2⟩ := x
        subst ht0
        exact hxv
      have hc1 : c1 = qI x.2 := Value.int.inj hc1
      show Value.int (c1 + _) = .int (qI (qNn _))
      rw [qI_N, hc1]
    | false =>
      rw [hb0] at hs
      have hg := q_ls_in hs hn
      refine hg ws tys H locs ls' st ⟨hE, hH, hP, hD, hK, hS, ⟨_, hl', ?_⟩, hT⟩
      exact hLs.set1 ⟨_, rfl⟩
theorem q_row4 (hx : p.tables.exec = Jvm.exec) (hb : c.code = bytes) (v : Nat) {x y : Int32} (hy : 8 ≤ v → ¬ y = 0) (hdec : decode bytes pc = .ok (q_ins4 v, 1)) {cells slots : Nat}
    (kk : W p l e0 R s m args below meth c H locs cells slots Q (F0 m (pc + 1) ls (.int (q_f4 v x y) :: rest))) : W p l e0 R s m args below meth c H locs cells slots Q (F0 m pc ls (.int y :: .int x :: rest)) := by
  rcases v with _ | _ | _ | _ | _ | _ | _ | _ | _ | v
  · exact lv_iadd hx hb hdec kk
  · exact lv_isub hx hb hdec kk
  · exact lv_imul hx hb hdec kk
  · exact lv_iand hx hb hdec kk
  · exact lv_ior hx hb hdec kk
  · exact lv_ixor hx hb hdec kk
  · exact lv_ishl hx hb hdec kk
  · exact lv_ishr hx hb hdec kk
  · exact lv_idiv hx hb hdec (hy (Nat.le_refl _)) kk
  · exact lv_irem hx hb hdec (hy (by omega)) kk
theorem q_RV.c0 {ws : va_W} {x : qV} {v : Value} (hx : q_RV ρ sb ws x v) (h0 : Nat.beq x.1 0 = true) : v = .int (qI x.2) := by
  have ht0 : x.1 = 0 := Nat.eq_of_beq_eq_true h0
  obtain ⟨x1, x2⟩ := x
  subst ht0
  exact hx
theorem q_RV.c3 {ws : va_W} {x : qV} {v : Value} (hx : q_RV ρ sb ws x v) (h0 : Nat.beq x.1 3 = true) : v = .long (qJ x.2) := by
  have ht0 : x.1 = 3 := Nat.eq_of_beq_eq_true h0
  obtain ⟨x1, x2⟩ := x
  subst ht0
  exact hx
theorem q_spl_in {P : qF → Prop} {x : qV} {g : qE × qV → qF} (hs : some ((q_spl env x).map g) = some nx) (hn : ∀ fr ∈ nx, P fr) : ∀ q ∈ q_spl env x, P (g q) := by
  cases hs
  exact fun q hq => hn _ (List.mem_map.mpr ⟨q, hq, rfl⟩)
theorem q_bf {α : Type} {b : Bool} {x y : Option α} {z : α} (h : (bif b then x else y) = some z) : (b = true ∧ x = some z) ∨ (b = false ∧ y = some z) := by
  cases b
  · exact Or.inr ⟨rfl, h⟩
  · exact Or.inl ⟨rfl, h⟩
theorem q_ok4 (C : q_Cx p R s m args meth c A ρ sb mc ms scr L own bytes maxL init) (hok : q_ok own init e) (hdec : decode bytes (q_pc e) = .ok (q_ins e)) (hop : e.1 = 4) (hs : q_s4 e env h k sl lv stk = some nx) (hn : ∀ fr ∈ nx, q_WW p l e0 R s m args below meth c Q D A ρ sb maxL fr) : q_WW p l e0 R s m args below meth c Q D A ρ sb maxL (env, h, k, sl, q_pc e, lv, stk) := by
  obtain ⟨op, pc, v, a, b, w, t⟩ := e
  subst hop
  obtain ⟨hx, hb, hml, hown, hts, hsp, hA, hin, hscr, hmc, hms, hR1, hR2⟩ := C
  unfold q_s4 at hs
  rcases stk with _ | ⟨y, _ | ⟨x, stk⟩⟩
  · cases hs
  · cases hs
  · obtain ⟨hk, hs⟩ := q_bt hs
    rw [Bool.and_eq_true] at hk
    have hkx := Nat.eq_of_beq_eq_true hk.1
    have hky := Nat.eq_of_beq_eq_true hk.2
    intro ws tys H locs ls st ⟨hE, hH, hP, hD, hK, hS, hL, hT⟩
    obtain ⟨yv, st, rfl, hyv, hT9⟩ := hT.cons
    clear hT
    have hT := hT9
    clear hT9
    obtain ⟨xv, st, rfl, hxv, hT9⟩ := hT.cons
    clear hT
    have hT := hT9
    clear hT9
    cases hc : (Nat.beq x.1 0 && Nat.beq y.1 0) with
    | true =>
      rw [hc] at hs
      rw [Bool.and_eq_true] at hc
      have ex := hxv.c0 hc.1
      have ey := hyv.c0 hc.2
      subst ex; subst ey
      cases hd : (Nat.ble 8 v && decide (qI y.2 = 0)) with
      | true =>
        have hs : (bif Nat.ble 8 v && decide (qI y.2 = 0) then none else _ : Option (List qF)) = some nx := hs
        rw [hd] at hs
        cases hs
      | false =>
        have hs : (bif Nat.ble 8 v && decide (qI y.2 = 0) then none else q_gv env h k sl (pc + 1) lv 0 (qNn (q_f4 v (qI x.2) (qI y.2))) stk : Option (List qF)) = some nx := hs
        rw [hd] at hs
        have hg := q_gv_in hs hn
        refine q_row4 hx hb v (fun h8 hy0 => ?_) hdec (hg ws tys H locs ls _ ⟨hE, hH, hP, hD, hK, hS, hL, ?_, hT⟩)
        · rw [Nat.ble_eq_true_of_le h8, decide_eq_true hy0] at hd
          cases hd
        · show Value.int _ = .int (qI (qNn _))
          rw [qI_N]
    | false =>
      rw [hc] at hs
      cases h1 : q_isPt env y with
      | true =>
        have hs : (bif q_isPt env y then some ((q_spl env y).map fun q => (q.1, h, k, sl, pc, lv, q.2 :: x :: stk)) else _ : Option (List qF)) = some nx := hs
        rw [h1] at hs
        have hg := q_spl_in hs hn
        obtain ⟨q, hq, hE2, hq2⟩ := q_spl_ok hE hyv h1
        exact hg q hq ws tys H locs ls _ ⟨hE2, hH, hP, hD, hK, hS, hL, hq2, hxv, hT⟩
      | false =>
        have hs : (bif q_isPt env y then _ else (bif q_isPt env x then some ((q_spl env x).map fun q => (q.1, h, k, sl, pc, lv, y :: q.2 :: stk)) else bif Nat.ble v 1 && Nat.beq y.1 0 && (Nat.beq x.1 1 && Nat.blt x.2 16 || Nat.beq x.1 10) then q_gv env h k sl (pc + 1) lv 10 (x.2 % 16 + 16 * qNn (q_f4 v (qI (x.2 / 16)) (qI y.2))) stk else bif Nat.ble 8 v && !(Nat.beq y.1 0 && !decide (qI y.2 = 0)) then none else q_go env h k sl (pc + 1) lv ((2, 0) :: stk)) : Option (List qF)) = some nx := hs
        rw [h1] at hs
        have hs : (bif q_isPt env x then some ((q_spl env x).map fun q => (q.1, h, k, sl, pc, lv, y :: q.2 :: stk)) else bif Nat.ble v 1 && Nat.beq y.1 0 && (Nat.beq x.1 1 && Nat.blt x.2 16 || Nat.beq x.1 10) then q_gv env h k sl (pc + 1) lv 10 (x.2 % 16 + 16 * qNn (q_f4 v (qI (x.2 / 16)) (qI y.2))) stk else bif Nat.ble 8 v && !(Nat.beq y.1 0 && !decide (qI y.2 = 0)) then none else q_go env h k sl (pc + 1) lv ((2, 0) :: stk) : Option (List qF)) = some nx := hs
        cases h2 : q_isPt env x with
        | true =>
          rw [h2] at hs
          have hg := q_spl_in hs hn
          obtain ⟨q, hq, hE2, hq2⟩ := q_spl_ok hE hxv h2
          exact hg q hq ws tys H locs ls _ ⟨hE2, hH, hP, hD, hK, hS, hL, hyv, hq2, hT⟩
        | false =>
          rw [h2] at hs
          have hs : (bif Nat.ble v 1 && Nat.beq y.1 0 && (Nat.beq x.1 1 && Nat.blt x.2 16 || Nat.beq x.1 10) then q_gv env h k sl (pc + 1) lv 10 (x.2 % 16 + 16 * qNn (q_f4 v (qI (x.2 / 16)) (qI y.2))) stk else bif Nat.ble 8 v && !(Nat.beq y.1 0 && !decide (qI y.2 = 0)) then none else q_go env h k sl (pc + 1) lv ((2, 0) :: stk) : Option (List qF)) = some nx := hs
          rcases q_bf hs with ⟨ha, hs⟩ | ⟨ha, hs⟩
          · simp only [Bool.and_eq_true, Bool.or_eq_true, q_ble, q_blt, decide_eq_true_eq] at ha
            obtain ⟨⟨hv1, hy0⟩, hxx⟩ := ha
            have ey := hyv.c0 hy0
            subst ey
            have ex : xv = .int (ρ (x.2 % 16) + qI (x.2 / 16)) := by
              rcases hxx with ⟨q1, q2⟩ | q1
              · have ht0 : x.1 = 1 := Nat.eq_of_beq_eq_true q1
                obtain ⟨x1, x2⟩ := x
                subst ht0
                have hxv : xv = .int (ρ x2) := hxv
                have q2 : x2 < 16 := q2
                have r1 : x2 % 16 = x2 := Nat.mod_eq_of_lt q2
                have r2 : x2 / 16 = 0 := Nat.div_eq_of_lt q2
                show xv = .int (ρ (x2 % 16) + qI (x2 / 16))
                rw [r1, r2, hxv]
                show Value.int (ρ x2) = .int (ρ x2 + 0)
                rw [Int32.add_zero]
              · have ht0 : x.1 = 10 := Nat.eq_of_beq_eq_true q1
                obtain ⟨x1, x2⟩ := x
                subst ht0
                exact hxv
            subst ex
            have hg := q_gv_in hs hn
            refine q_row4 hx hb v (fun h8 => by omega) hdec (hg ws tys H locs ls _ ⟨hE, hH, hP, hD, hK, hS, hL, ?_, hT⟩)
            show Value.int _ = .int (ρ ((x.2 % 16 + 16 * qNn (q_f4 v (qI (x.2 / 16)) (qI y.2))) % 16) + qI ((x.2 % 16 + 16 * qNn (q_f4 v (qI (x.2 / 16)) (qI y.2))) / 16))
            have r1 : (x.2 % 16 + 16 * qNn (q_f4 v (qI (x.2 / 16)) (qI y.2))) % 16 = x.2 % 16 := by omega
            have r2 : (x.2 % 16 + 16 * qNn (q_f4 v (qI (x.2 / 16)) (qI y.2))) / 16 = qNn (q_f4 v (qI (x.2 / 16)) (qI y.2)) := by omega
            rw [r1, r2, qI_N]
            rcases v with _ | _ | v
            · show Value.int (_ + _ + _) = .int (_ + (_ + _))
              rw [Int32.add_assoc]
            · show Value.int (_ + _ - _) = .int (_ + (_ - _))
              rw [Int32.sub_eq_add_neg, Int32.sub_eq_add_neg, Int32.add_assoc]
            · omega
          · have hs : (bif Nat.ble 8 v && !(Nat.beq y.1 0 && !decide (qI y.2 = 0)) then none else q_go env h k sl (pc + 1) lv ((2, 0) :: stk) : Option (List qF)) = some nx := hs
            cases hd : (Nat.ble 8 v && !(Nat.beq y.1 0 && !decide (qI y.2 = 0))) with
            | true => rw [hd] at hs; cases hs
            | false =>
              rw [hd] at hs
              have hg := q_go_in hs hn
              obtain ⟨xc, rfl⟩ := hxv.int hkx
              obtain ⟨yc, rfl⟩ := hyv.int hky
              refine q_row4 hx hb v (fun h8 hy0 => ?_) hdec (hg ws tys H locs ls _ ⟨hE, hH, hP, hD, hK, hS, hL, ⟨_, rfl⟩, hT⟩)
              rw [Nat.ble_eq_true_of_le h8] at hd
              cases hb0 : Nat.beq y.1 0 with
              | false => rw [hb0] at hd; cases hd
              | true =>
                rw [hb0] at hd
                have ey := Value.int.inj (hyv.c0 hb0)
                rw [← ey, decide_eq_true hy0] at hd
                cases hd
theorem q_row5 (hx : p.tables.exec = Jvm.exec) (hb : c.code = bytes) (v : Nat) (hv7 : v < 7) {x y : Int64} (hy : 5 ≤ v → ¬ y = 0) (hdec : decode bytes pc = .ok (q_ins5 v, 1)) {cells slots : Nat}
    (kk : W p l e0 R s m args below meth c H locs cells slots Q (F0 m (pc + 1) ls (.long (q_f5 v x y) :: rest))) : W p l e0 R s m args below meth c H locs cells slots Q (F0 m pc ls (.long y :: .long x :: rest)) := by
  rcases v with _ | _ | _ | _ | _ | _ | _ | v
  · exact lv_ladd hx hb hdec kk
  · exact lv_lsub hx hb hdec kk
  · exact lv_lmul hx hb hdec kk
  · exact lv_land hx hb hdec kk
  · exact lv_lor hx hb hdec kk
  · exact lv_ldiv hx hb hdec (hy (by omega)) kk
  · exact lv_lrem hx hb hdec (hy (by omega)) kk
  · omega
theorem q_ok5 (C : q_Cx p R s m args meth c A ρ sb mc ms scr L own bytes maxL init) (hok : q_ok own init e) (hdec : decode bytes (q_pc e) = .ok (q_ins e)) (hop : e.1 = 5) (hs : q_s5 e env h k sl lv stk = some nx) (hn : ∀ fr ∈ nx, q_WW p l e0 R s m args below meth c Q D A ρ sb maxL fr) : q_WW p l e0 R s m args below meth c Q D A ρ sb maxL (env, h, k, sl, q_pc e, lv, stk) := by
  obtain ⟨op, pc, v, a, b, w, t⟩ := e
  subst hop
  obtain ⟨hx, hb, hml, hown, hts, hsp, hA, hin, hscr, hmc, hms, hR1, hR2⟩ := C
  unfold q_s5 at hs
  rcases stk with _ | ⟨y, _ | ⟨x, stk⟩⟩
  · cases hs
  · cases hs
  · intro ws tys H locs ls st ⟨hE, hH, hP, hD, hK, hS, hL, hT⟩
    obtain ⟨yv, st, rfl, hyv, hT9⟩ := hT.cons
    clear hT
    have hT := hT9
    clear hT9
    obtain ⟨xv, st, rfl, hxv, hT9⟩ := hT.cons
    clear hT
    have hT := hT9
    clear hT9
    rcases q_bf hs with ⟨h7, hs⟩ | ⟨h7, hs⟩
    · obtain ⟨hk, hs⟩ := q_bt hs
      rw [Bool.and_eq_true] at hk
      obtain ⟨xc, rfl⟩ := hxv.long (Nat.eq_of_beq_eq_true hk.1)
      obtain ⟨yc, rfl⟩ := hyv.int (Nat.eq_of_beq_eq_true hk.2)
      have hg := q_go_in hs hn
      have h7 : 7 ≤ v := Nat.le_of_ble_eq_true h7
      obtain ⟨u, rfl⟩ : ∃ u, v = u + 7 := ⟨v - 7, by omega⟩
      exact lv_lshl hx hb hdec rfl (hg ws tys H locs ls _ ⟨hE, hH, hP, hD, hK, hS, hL, ⟨_, rfl⟩, hT⟩)
    · have h7 : v < 7 := by
        rw [q_ble] at h7
        exact Nat.not_le.mp (of_decide_eq_false h7)
      obtain ⟨hk, hs⟩ := q_bt hs
      rw [Bool.and_eq_true] at hk
      rcases q_bf hs with ⟨hc, hs⟩ | ⟨hc, hs⟩
      · rw [Bool.and_eq_true] at hc
        have ex := hxv.c3 hc.1
        have ey := hyv.c3 hc.2
        subst ex; subst ey
        rcases q_bf hs with ⟨hd, hs⟩ | ⟨hd, hs⟩
        · cases hs
        · have hg := q_gv_in hs hn
          refine q_row5 hx hb v h7 (fun h8 hy0 => ?_) hdec (hg ws tys H locs ls _ ⟨hE, hH, hP, hD, hK, hS, hL, ?_, hT⟩)
          · have hd : (Nat.ble 5 v && decide (qJ y.2 = 0)) = false := hd
            rw [Nat.ble_eq_true_of_le h8, decide_eq_true hy0] at hd
            cases hd
          · show Value.long _ = .long (qJ (qMn _))
            rw [qJ_M]
      · rcases q_bf hs with ⟨hd, hs⟩ | ⟨hd, hs⟩
        · cases hs
        · have hg := q_go_in hs hn
          obtain ⟨xc, rfl⟩ := hxv.long (Nat.eq_of_beq_eq_true hk.1)
          obtain ⟨yc, rfl⟩ := hyv.long (Nat.eq_of_beq_eq_true hk.2)
          refine q_row5 hx hb v h7 (fun h8 => ?_) hdec (hg ws tys H locs ls _ ⟨hE, hH, hP, hD, hK, hS, hL, ⟨_, rfl⟩, hT⟩)
          have hd : Nat.ble 5 v = false := hd
          rw [Nat.ble_eq_true_of_le h8] at hd
          cases hd
theorem q_ok6 (C : q_Cx p R s m args meth c A ρ sb mc ms scr L own bytes maxL init) (hok : q_ok own init e) (hdec : decode bytes (q_pc e) = .ok (q_ins e)) (hop : e.1 = 6) (hs : q_s6 e env h k sl lv stk = some nx) (hn : ∀ fr ∈ nx, q_WW p l e0 R s m args below meth c Q D A ρ sb maxL fr) : q_WW p l e0 R s m args below meth c Q D A ρ sb maxL (env, h, k, sl, q_pc e, lv, stk) := by
  obtain ⟨op, pc, v, a, b, w, t⟩ := e
  subst hop
  obtain ⟨hx, hb, hml, hown, hts, hsp, hA, hin, hscr, hmc, hms, hR1, hR2⟩ := C
  unfold q_s6 at hs
  rcases stk with _ | ⟨x, stk⟩
  · cases hs
  · intro ws tys H locs ls st ⟨hE, hH, hP, hD, hK, hS, hL, hT⟩
    obtain ⟨xv, st, rfl, hxv, hT9⟩ := hT.cons
    clear hT
    have hT := hT9
    clear hT9
    obtain ⟨hk, hs⟩ := q_bt hs
    have hk := Nat.eq_of_beq_eq_true hk
    have hg := q_gv_in hs hn
    have hgo : ∀ (z : Value), q_RV ρ sb ws ((q_s6v v x).1, (q_s6v v x).2) z → W p l e0 R s m args below meth c H locs k sl Q (F0 m (pc + 1) ls (z :: st)) := fun z hz => hg ws tys H locs ls (z :: st) ⟨hE, hH, hP, hD, hK, hS, hL, hz, hT⟩
    rcases v with _ | _ | _ | v
    · obtain ⟨xc, rfl⟩ := hxv.int hk
      refine lv_i2l hx hb hdec rfl (hgo _ ?_)
      show q_RV ρ sb ws (bif Nat.beq x.1 0 then (3, qMn (qI x.2).toInt64) else bif Nat.beq x.1 1 then (4, x.2) else (5, 0)) _
      cases h0 : Nat.beq x.1 0 with
      | true =>
        have := Value.int.inj (hxv.c0 h0)
        show Value.long _ = .long (qJ (qMn _))
        rw [qJ_M, this]
      | false =>
        cases h1 : Nat.beq x.1 1 with
        | true =>
          have ht0 : x.1 = 1 := Nat.eq_of_beq_eq_true h1
          obtain ⟨x1, x2⟩ := x
          subst ht0
          have : Value.int xc = .int (ρ x2) := hxv
          have := Value.int.inj this
          show Value.long _ = .long (ρ x2).toInt64
          rw [this]
        | false => exact ⟨_, rfl⟩
    · obtain ⟨xc, rfl⟩ := hxv.long hk
      refine lv_l2i hx hb hdec rfl (hgo _ ?_)
      show q_RV ρ sb ws (bif Nat.beq x.1 3 then (0, qNn (qJ x.2).toInt32) else (2, 0)) _
      cases h0 : Nat.beq x.1 3 with
      | true =>
        have := Value.long.inj (hxv.c3 h0)
        show Value.int _ = .int (qI (qNn _))
        rw [qI_N, this]
      | false => exact ⟨_, rfl⟩
    · obtain ⟨xc, rfl⟩ := hxv.int hk
      refine lv_i2b hx hb hdec rfl (hgo _ ?_)
      show q_RV ρ sb ws (bif Nat.beq x.1 0 then (0, qNn (qI x.2).toInt8.toInt32) else (2, 0)) _
      cases h0 : Nat.beq x.1 0 with
      | true =>
        have := Value.int.inj (hxv.c0 h0)
        show Value.int _ = .int (qI (qNn _))
        rw [qI_N, this]
      | false => exact ⟨_, rfl⟩
    · have hk : q_knd x = 0 := by
        have e1 : Nat.beq (v + 1 + 1 + 1) 1 = false := by rw [q_beq]; exact decide_eq_false (by omega)
        have hk : q_knd x = bif Nat.beq (v + 1 + 1 + 1) 1 then 1 else 0 := hk
        rw [hk, e1]
        rfl
      obtain ⟨xc, rfl⟩ := hxv.int hk
      refine lv_i2s hx hb hdec rfl (hgo _ ?_)
      show q_RV ρ sb ws (bif Nat.beq x.1 0 then (0, qNn (qI x.2).toInt16.toInt32) else (2, 0)) _
      cases h0 : Nat.beq x.1 0 with
      | true =>
        have := Value.int.inj (hxv.c0 h0)
        show Value.int _ = .int (qI (qNn _))
        rw [qI_N, this]
      | false => exact ⟨_, rfl⟩
theorem q_row8 (hx : p.tables.exec = Jvm.exec) (hb : c.code = bytes) (v : Nat) {x : Int32} {o : Int} {tgt : Nat} (hdec : decode bytes pc = .ok (q_ins8 v o, 3)) (ht : (pc : Int) + o = (tgt : Int)) {cells slots : Nat}
    (kk : W p l e0 R s m args below meth c H locs cells slots Q (F0 m (bif q_op v x 0 then tgt else pc + 3) ls rest)) : W p l e0 R s m args below meth c H locs cells slots Q (F0 m pc ls (.int x :: rest)) := by
  have kt : q_op v x 0 = true → W p l e0 R s m args below meth c H locs cells slots Q (F0 m tgt ls rest) := fun q => by rw [q] at kk; exact kk
  have kf : q_op v x 0 = false → W p l e0 R s m args below meth c H locs cells slots Q (F0 m (pc + 3) ls rest) := fun q => by rw [q] at kk; exact kk
  rcases v with _ | _ | _ | _ | _ | v
  · exact lv_if_eq hx hb hdec ht (fun q => kt (by simp [q_op, q])) (fun q => kf (by simp [q_op, q]))
  · exact lv_if_ne hx hb hdec ht (fun q => kt (by simp [q_op, q])) (fun q => kf (by simp [q_op, q]))
  · exact lv_if_lt hx hb hdec ht (fun q => kt (by simp [q_op, q])) (fun q => kf (by simp only [q_op, decide_eq_false q]))
  · exact lv_if_ge hx hb hdec ht (fun q => kt (by simp only [q_op, decide_eq_false (Int32.not_lt.mpr q)]; rfl)) (fun q => kf (by simp only [q_op, decide_eq_true (Int32.not_le.mp q)]; rfl))
  · exact lv_if_gt hx hb hdec ht (fun q => kt (by simp [q_op, q])) (fun q => kf (by simp only [q_op, decide_eq_false q]))
  · exact lv_if_le hx hb hdec ht (fun q => kt (by simp only [q_op, decide_eq_false (Int32.not_lt.mpr q)]; rfl)) (fun q => kf (by simp only [q_op, decide_eq_true (Int32.not_le.mp q)]; rfl))
theorem q_row9 (hx : p.tables.exec = Jvm.exec) (hb : c.code = bytes) (v : Nat) {x y : Int32} {o : Int} {tgt : Nat} (hdec : decode bytes pc = .ok (q_ins9 v o, 3)) (ht : (pc : Int) + o = (tgt : Int)) {cells slots : Nat}
    (kk : W p l e0 R s m args below meth c H locs cells slots Q (F0 m (bif q_op v x y then tgt else pc + 3) ls rest)) : W p l e0 R s m args below meth c H locs cells slots Q (F0 m pc ls (.int y :: .int x :: rest)) := by
  have kt : q_op v x y = true → W p l e0 R s m args below meth c H locs cells slots Q (F0 m tgt ls rest) := fun q => by rw [q] at kk; exact kk
  have kf : q_op v x y = false → W p l e0 R s m args below meth c H locs cells slots Q (F0 m (pc + 3) ls rest) := fun q => by rw [q] at kk; exact kk
  rcases v with _ | _ | _ | _ | _ | v
  · exact lv_icmp_eq hx hb hdec ht (fun q => kt (by simp [q_op, q])) (fun q => kf (by simp [q_op, q]))
  · exact lv_icmp_ne hx hb hdec ht (fun q => kt (by simp [q_op, q])) (fun q => kf (by simp [q_op, q]))
  · exact lv_icmp_lt hx hb hdec ht (fun q => kt (by simp [q_op, q])) (fun q => kf (by simp only [q_op, decide_eq_false q]))
  · exact lv_icmp_ge hx hb hdec ht (fun q => kt (by simp only [q_op, decide_eq_false (Int32.not_lt.mpr q)]; rfl)) (fun q => kf (by simp only [q_op, decide_eq_true (Int32.not_le.mp q)]; rfl))
  · exact lv_icmp_gt hx hb hdec ht (fun q => kt (by simp [q_op, q])) (fun q => kf (by simp only [q_op, decide_eq_false q]))
  · exact lv_icmp_le hx hb hdec ht (fun q => kt (by simp only [q_op, decide_eq_false (Int32.not_lt.mpr q)]; rfl)) (fun q => kf (by simp only [q_op, decide_eq_true (Int32.not_le.mp q)]; rfl))
theorem q_map_in {α : Type} {P : qF → Prop} {xs : List α} {g : α → qF} (hs : some (xs.map g) = some nx) (hn : ∀ fr ∈ nx, P fr) : ∀ q ∈ xs, P (g q) := by
  cases hs
  exact fun q hq => hn _ (List.mem_map.mpr ⟨q, hq, rfl⟩)
theorem q_ok8 (C : q_Cx p R s m args meth c A ρ sb mc ms scr L own bytes maxL init) (hok : q_ok own init e) (hdec : decode bytes (q_pc e) = .ok (q_ins e)) (hop : e.1 = 8) (hs : q_s8 e env h k sl lv stk = some nx) (hn : ∀ fr ∈ nx, q_WW p l e0 R s m args below meth c Q D A ρ sb maxL fr) : q_WW p l e0 R s m args below meth c Q D A ρ sb maxL (env, h, k, sl, q_pc e, lv, stk) := by
  obtain ⟨op, pc, v, a, b, w, t⟩ := e
  subst hop
  obtain ⟨hx, hb, hml, hown, hts, hsp, hA, hin, hscr, hmc, hms, hR1, hR2⟩ := C
  unfold q_s8 at hs
  rcases stk with _ | ⟨x, stk⟩
  · cases hs
  · intro ws tys H locs ls st ⟨hE, hH, hP, hD, hK, hS, hL, hT⟩
    obtain ⟨xv, st, rfl, hxv, hT9⟩ := hT.cons
    clear hT
    have hT := hT9
    clear hT9
    obtain ⟨hk, hs⟩ := q_bt hs
    obtain ⟨xc, rfl⟩ := hxv.int (Nat.eq_of_beq_eq_true hk)
    have hg := q_map_in hs hn
    obtain ⟨q, hq, h1, hE2⟩ := q_cmp_ok hE v hxv (y := (0, 0)) (c := 0) (by rfl)
    have hg := hg q hq
    rw [q_fc_eq] at hg
    refine q_row8 hx hb v hdec (q_off_eq pc a) ?_
    rw [← h1]
    exact hg ws tys H locs ls st ⟨hE2, hH, hP, hD, hK, hS, hL, hT⟩
theorem q_ok9 (C : q_Cx p R s m args meth c A ρ sb mc ms scr L own bytes maxL init) (hok : q_ok own init e) (hdec : decode bytes (q_pc e) = .ok (q_ins e)) (hop : e.1 = 9) (hs : q_s9 e env h k sl lv stk = some nx) (hn : ∀ fr ∈ nx, q_WW p l e0 R s m args below meth c Q D A ρ sb maxL fr) : q_WW p l e0 R s m args below meth c Q D A ρ sb maxL (env, h, k, sl, q_pc e, lv, stk) := by
  obtain ⟨op, pc, v, a, b, w, t⟩ := e
  subst hop
  obtain ⟨hx, hb, hml, hown, hts, hsp, hA, hin, hscr, hmc, hms, hR1, hR2⟩ := C
  unfold q_s9 at hs
  rcases stk with _ | ⟨y, _ | ⟨x, stk⟩⟩
  · cases hs
  · cases hs
  · intro ws tys H locs ls st ⟨hE, hH, hP, hD, hK, hS, hL, hT⟩
    obtain ⟨yv, st, rfl, hyv, hT9⟩ := hT.cons
    clear hT
    have hT := hT9
    clear hT9
    obtain ⟨xv, st, rfl, hxv, hT9⟩ := hT.cons
    clear hT
    have hT := hT9
    clear hT9
    rcases q_bf hs with ⟨hk, hs⟩ | ⟨-, hs⟩
    · rw [Bool.and_eq_true] at hk
      have hg := q_spl_in hs hn
      obtain ⟨q, hq, hE2, hq2⟩ := q_spl_ok hE hyv hk.2
      exact hg q hq ws tys H locs ls _ ⟨hE2, hH, hP, hD, hK, hS, hL, hq2, hxv, hT⟩
    · rcases q_bf hs with ⟨hk, hs⟩ | ⟨-, hs⟩
      · rw [Bool.and_eq_true] at hk
        have hg := q_spl_in hs hn
        obtain ⟨q, hq, hE2, hq2⟩ := q_spl_ok hE hxv hk.2
        exact hg q hq ws tys H locs ls _ ⟨hE2, hH, hP, hD, hK, hS, hL, hyv, hq2, hT⟩
      · obtain ⟨hk, hs⟩ := q_bt hs
        rw [Bool.and_eq_true] at hk
        obtain ⟨xc, rfl⟩ := hxv.int (Nat.eq_of_beq_eq_true hk.1)
        obtain ⟨yc, rfl⟩ := hyv.int (Nat.eq_of_beq_eq_true hk.2)
        have hg := q_map_in hs hn
        obtain ⟨q, hq, h1, hE2⟩ := q_cmp_ok hE v hxv hyv
        have hg := hg q hq
        rw [q_fc_eq] at hg
        refine q_row9 hx hb v hdec (q_off_eq pc a) ?_
        rw [← h1]
        exact hg ws tys H locs ls st ⟨hE2, hH, hP, hD, hK, hS, hL, hT⟩
theorem q_ok10 (C : q_Cx p R s m args meth c A ρ sb mc ms scr L own bytes maxL init) (hok : q_ok own init e) (hdec : decode bytes (q_pc e) = .ok (q_ins e)) (hop : e.1 = 10) (hs : q_go env h k sl (q_a e) lv stk = some nx) (hn : ∀ fr ∈ nx, q_WW p l e0 R s m args below meth c Q D A ρ sb maxL fr) : q_WW p l e0 R s m args below meth c Q D A ρ sb maxL (env, h, k, sl, q_pc e, lv, stk) := by
  obtain ⟨op, pc, v, a, b, w, t⟩ := e
  subst hop
  obtain ⟨hx, hb, hml, hown, hts, hsp, hA, hin, hscr, hmc, hms, hR1, hR2⟩ := C
  have hg := q_go_in hs hn
  intro ws tys H locs ls st ⟨hE, hH, hP, hD, hK, hS, hL, hT⟩
  exact lv_goto hx hb hdec (q_off_eq pc a) (hg ws tys H locs ls st ⟨hE, hH, hP, hD, hK, hS, hL, hT⟩)
theorem q_ok11 (C : q_Cx p R s m args meth c A ρ sb mc ms scr L own bytes maxL init) (hok : q_ok own init e) (hdec : decode bytes (q_pc e) = .ok (q_ins e)) (hop : e.1 = 11) (hs : q_s11 e env h k sl lv stk = some nx) (hn : ∀ fr ∈ nx, q_WW p l e0 R s m args below meth c Q D A ρ sb maxL fr) : q_WW p l e0 R s m args below meth c Q D A ρ sb maxL (env, h, k, sl, q_pc e, lv, stk) := by
  obtain ⟨op, pc, v, a, b, w, t⟩ := e
  subst hop
  obtain ⟨hx, hb, hml, hown, hts, hsp, hA, hin, hscr, hmc, hms, hR1, hR2⟩ := C
  unfold q_s11 at hs
  rcases stk with _ | ⟨x, stk⟩
  · cases hs
  · intro ws tys H locs ls st ⟨hE, hH, hP, hD, hK, hS, hL, hT⟩
    obtain ⟨xv, st, rfl, hxv, hT9⟩ := hT.cons
    clear hT
    have hT := hT9
    clear hT9
    obtain ⟨hk, hs⟩ := q_bt hs
    have hg := q_go_in hs hn
    have hg := hg ws tys H locs ls st ⟨hE, hH, hP, hD, hK, hS, hL, hT⟩
    have hg : W p l e0 R s m args below meth c H locs k sl Q (F0 m (bif Nat.beq x.1 7 then a else pc + 3) ls st) := hg
    rcases hxv.rf (Nat.eq_of_beq_eq_true hk) with ⟨h7, rfl⟩ | ⟨h7, a1, rfl⟩
    · rw [h7] at hg
      exact lv_ifnullN hx hb hdec (q_off_eq pc a) hg
    · have e1 : Nat.beq x.1 7 = false := by rw [q_beq]; exact decide_eq_false h7
      rw [e1] at hg
      exact lv_ifnull hx hb hdec hg
theorem q_ok27 (C : q_Cx p R s m args meth c A ρ sb mc ms scr L own bytes maxL init) (hok : q_ok own init e) (hdec : decode bytes (q_pc e) = .ok (q_ins e)) (hop : e.1 = 27) (hs : q_s27 e env h k sl lv stk = some nx) (hn : ∀ fr ∈ nx, q_WW p l e0 R s m args below meth c Q D A ρ sb maxL fr) : q_WW p l e0 R s m args below meth c Q D A ρ sb maxL (env, h, k, sl, q_pc e, lv, stk) := by
  obtain ⟨op, pc, v, a, b, w, t⟩ := e
  subst hop
  obtain ⟨hx, hb, hml, hown, hts, hsp, hA, hin, hscr, hmc, hms, hR1, hR2⟩ := C
  unfold q_s27 at hs
  rcases stk with _ | ⟨x, stk⟩
  · cases hs
  · intro ws tys H locs ls st ⟨hE, hH, hP, hD, hK, hS, hL, hT⟩
    obtain ⟨xv, st, rfl, hxv, hT9⟩ := hT.cons
    clear hT
    have hT := hT9
    clear hT9
    obtain ⟨hk, hs⟩ := q_bt hs
    have hg := q_go_in hs hn
    have hg := hg ws tys H locs ls st ⟨hE, hH, hP, hD, hK, hS, hL, hT⟩
    have hg : W p l e0 R s m args below meth c H locs k sl Q (F0 m (bif Nat.beq x.1 7 then pc + 3 else a) ls st) := hg
    rcases hxv.rf (Nat.eq_of_beq_eq_true hk) with ⟨h7, rfl⟩ | ⟨h7, a1, rfl⟩
    · rw [h7] at hg
      exact lv_ifnonnullN hx hb hdec hg
    · have e1 : Nat.beq x.1 7 = false := by rw [q_beq]; exact decide_eq_false h7
      rw [e1] at hg
      exact lv_ifnonnull hx hb hdec (q_off_eq pc a) hg
end
end
section
-- 08.sound: compares of longs, switches, dup, fields, loads
section
variable {p : Program} {l : Launch} {e0 : Env} {R : Room} {s : State} {m : MethodId} {args : Array Value} {below : List Frame} {meth : Method} {c : Code} {Q : State → Prop}
variable {D : va_G} {A : Nat → Prop} {ρ : Nat → Int32} {sb : Nat × va_W} {mc ms : Nat} {scr : Bool} {L : Nat} {own : String} {bytes : ByteArray} {maxL : Nat} {init : Bool}
variable {e : qN} {env : qE} {h : qH} {k sl : Nat} {lv : qL} {stk : List qV} {nx : List qF}
variable {H : Heap} {locs : List Loc} {pc : Nat} {ls : Array Slot} {rest : List Value}
theorem q_lgc (a b : Int64) : lg_cmp a b = if b.toInt < a.toInt then 1 else if a.toInt = b.toInt then 0 else -1 := by
  unfold lg_cmp
  by_cases h1 : b.toInt < a.toInt
  · rw [if_pos h1, if_pos (Int64.lt_iff_toInt_lt.mpr h1)]
  · rw [if_neg h1, if_neg (fun q => h1 (Int64.lt_iff_toInt_lt.mp q))]
    by_cases h2 : a.toInt = b.toInt
    · rw [if_pos h2, if_pos (Int64.toInt_inj.mp h2)]
    · rw [if_neg h2, if_neg (fun q => h2 (by rw [q]))]
theorem q_lc_ok {ws : va_W} {env : qE} (h : q_En ρ env) {x y : qV} {a c : Int64} (hx : q_RV ρ sb ws x (.long a)) (hy : q_RV ρ sb ws y (.long c)) : ∃ q ∈ q_lc env x y, q.1 = qNn (lg_cmp a c) ∧ q_En ρ q.2 := by
  have hall : ∃ q ∈ ([(qNn (-1), env), (0, env), (1, env)] : List (Nat × qE)), q.1 = qNn (lg_cmp a c) ∧ q_En ρ q.2 := by
    rw [q_lgc]
    by_cases h1 : c.toInt < a.toInt
    · rw [if_pos h1]
      exact ⟨(1, env), by simp, rfl, h⟩
    · rw [if_neg h1]
      by_cases h2 : a.toInt = c.toInt
      · rw [if_pos h2]
        exact ⟨(0, env), by simp, rfl, h⟩
      · rw [if_neg h2]
        exact ⟨(qNn (-1), env), by simp, rfl, h⟩
  unfold q_lc
  cases h1 : (Nat.beq x.1 3 && Nat.beq y.1 3) with
  | true =>
    simp only [cond_true]
    rw [Bool.and_eq_true] at h1
    have ex := Value.long.inj (hx.c3 h1.1)
    have ey := Value.long.inj (hy.c3 h1.2)
    exact ⟨_, List.mem_singleton.mpr rfl, by show qNn (lg_cmp (qJ x.2) (qJ y.2)) = _; rw [ex, ey], h⟩
  | false =>
    simp only [cond_false]
    cases h2 : (Nat.beq x.1 4 && Nat.beq y.1 3 && decide (0 ≤ (qJ y.2).toInt + 2147483648)) with
    | true =>
      simp only [cond_true]
      simp only [Bool.and_eq_true, decide_eq_true_eq] at h2
      have ht : x.1 = 4 := Nat.eq_of_beq_eq_true h2.1.1
      have ey := Value.long.inj (hy.c3 h2.1.2)
      obtain ⟨x1, i⟩ := x
      subst ht
      have ex : a = (ρ i).toInt64 := Value.long.inj hx
      have h0 := h2.2
      generalize hB : ((qJ y.2).toInt + 2147483648).toNat = B
      have hBi : (B : Int) = c.toInt + 2147483648 := by rw [← hB, ey]; omega
      have ha : a.toInt = (ρ i).toInt := by rw [ex]; exact Int32.toInt_toInt64 _
      have hq := qB_int (ρ i)
      obtain ⟨q, hq1, hq2, hq3⟩ := q_lt_ok h i B true false
      by_cases hl : qB (ρ i) < B
      · rw [if_pos hl] at hq2
        refine ⟨(qNn (-1), q.2), List.mem_flatMap.mpr ⟨q, hq1, by rw [hq2]; exact List.mem_singleton.mpr rfl⟩, ?_, hq3⟩
        rw [q_lgc, if_neg (by omega), if_neg (by omega)]
      · rw [if_neg hl] at hq2
        obtain ⟨r, hr1, hr2, hr3⟩ := q_gt_ok hq3 i B true false
        by_cases hg : B < qB (ρ i)
        · rw [if_pos hg] at hr2
          refine ⟨(1, r.2), List.mem_flatMap.mpr ⟨q, hq1, by rw [hq2]; exact List.mem_map.mpr ⟨r, hr1, by rw [hr2]; rfl⟩⟩, ?_, hr3⟩
          rw [q_lgc, if_pos (by omega)]
          rfl
        · rw [if_neg hg] at hr2
          refine ⟨(0, r.2), List.mem_flatMap.mpr ⟨q, hq1, by rw [hq2]; exact List.mem_map.mpr ⟨r, hr1, by rw [hr2]; rfl⟩⟩, ?_, hr3⟩
          rw [q_lgc, if_neg (by omega), if_pos (by omega)]
          rfl
    | false =>
      simp only [cond_false]
      cases h3 : (Nat.beq x.1 3 && Nat.beq y.1 4 && decide (0 ≤ (qJ x.2).toInt + 2147483648)) with
      | true =>
        simp only [cond_true]
        simp only [Bool.and_eq_true, decide_eq_true_eq] at h3
        have ht : y.1 = 4 := Nat.eq_of_beq_eq_true h3.1.2
        have ex := Value.long.inj (hx.c3 h3.1.1)
        obtain ⟨y1, i⟩ := y
        subst ht
        have ey : c = (ρ i).toInt64 := Value.long.inj hy
        have h0 := h3.2
        generalize hB : ((qJ x.2).toInt + 2147483648).toNat = B
        have hBi : (B : Int) = a.toInt + 2147483648 := by rw [← hB, ex]; omega
        have ha : c.toInt = (ρ i).toInt := by rw [ey]; exact Int32.toInt_toInt64 _
        have hq := qB_int (ρ i)
        obtain ⟨q, hq1, hq2, hq3⟩ := q_lt_ok h i B true false
        by_cases hl : qB (ρ i) < B
        · rw [if_pos hl] at hq2
          refine ⟨(1, q.2), List.mem_flatMap.mpr ⟨q, hq1, by rw [hq2]; exact List.mem_singleton.mpr rfl⟩, ?_, hq3⟩
          rw [q_lgc, if_pos (by omega)]
          rfl
        · rw [if_neg hl] at hq2
          obtain ⟨r, hr1, hr2, hr3⟩ := q_gt_ok hq3 i B true false
          by_cases hg : B < qB (ρ i)
          · rw [if_pos hg] at hr2
            refine ⟨(qNn (-1), r.2), List.mem_flatMap.mpr ⟨q, hq1, by rw [hq2]; exact List.mem_map.mpr ⟨r, hr1, by rw [hr2]; rfl⟩⟩, ?_, hr3⟩
            rw [q_lgc, if_neg (by omega), if_neg (by omega)]
          · rw [if_neg hg] at hr2
            refine ⟨(0, r.2), List.mem_flatMap.mpr ⟨q, hq1, by rw [hq2]; exact List.mem_map.mpr ⟨r, hr1, by rw [hr2]; rfl⟩⟩, ?_, hr3⟩
            rw [q_lgc, if_neg (by omega), if_pos (by omega)]
            rfl
      | false =>
        simp only [cond_false]
        exact hall
theorem q_ok7 (C : q_Cx p R s m args meth c A ρ sb mc ms scr L own bytes maxL init) (hok : q_ok own init e) (hdec : decode bytes (q_pc e) = .ok (q_ins e)) (hop : e.1 = 7) (hs : q_s7 e env h k sl lv stk = some nx) (hn : ∀ fr ∈ nx, q_WW p l e0 R s m args below meth c Q D A ρ sb maxL fr) : q_WW p l e0 R s m args below meth c Q D A ρ sb maxL (env, h, k, sl, q_pc e, lv, stk) := by
  obtain ⟨op, pc, v, a, b, w, t⟩ := e
  subst hop
  obtain ⟨hx, hb, hml, hown, hts, hsp, hA, hin, hscr, hmc, hms, hR1, hR2⟩ := C
  unfold q_s7 at hs
  rcases stk with _ | ⟨y, _ | ⟨x, stk⟩⟩
  · cases hs
  · cases hs
  · intro ws tys H locs ls st ⟨hE, hH, hP, hD, hK, hS, hL, hT⟩
    obtain ⟨yv, st, rfl, hyv, hT9⟩ := hT.cons
    clear hT
    have hT := hT9
    clear hT9
    obtain ⟨xv, st, rfl, hxv, hT9⟩ := hT.cons
    clear hT
    have hT := hT9
    clear hT9
    obtain ⟨hk, hs⟩ := q_bt hs
    rw [Bool.and_eq_true] at hk
    obtain ⟨xc, rfl⟩ := hxv.long (Nat.eq_of_beq_eq_true hk.1)
    obtain ⟨yc, rfl⟩ := hyv.long (Nat.eq_of_beq_eq_true hk.2)
    have hg := q_map_in hs hn
    obtain ⟨q, hq, h1, hE2⟩ := q_lc_ok hE hxv hyv
    have hg := hg q hq
    rw [q_fc_eq] at hg
    refine W.lcmp hx hb hdec (hg ws tys H locs ls _ ⟨hE2, hH, hP, hD, hK, hS, hL, ?_, hT⟩)
    show Value.int _ = .int (qI q.1)
    rw [h1, qI_N]
theorem q_sw_ok {env : qE} (h : q_En ρ env) (i : Nat) : ∀ (ts : List Nat) (j m : Nat), m < ts.length → (ρ i).toInt = ((j + m : Nat) : Int) → ∃ q ∈ q_sw env i ts j, q.2 = ts.getD m 0 ∧ q_En ρ q.1
  | [], j, m, hm, _ => absurd hm (Nat.not_lt_zero _)
  | t :: ts, j, m, hm, hv => by
    have e : q_sw env i (t :: ts) j = (bif Nat.ble (q_eg env i).1 (j + 2147483648) && Nat.ble (j + 2147483648) (q_eg env i).2 then [(q_iv env i (j + 2147483648) (j + 2147483648), t)] else []) ++ q_sw env i ts (j + 1) := rfl
    rw [e]
    cases m with
    | zero =>
      have hb := qB_int (ρ i)
      have hq : qB (ρ i) = j + 2147483648 := by omega
      obtain ⟨g1, g2⟩ := q_eg_ok h i
      refine ⟨(q_iv env i (j + 2147483648) (j + 2147483648), t), List.mem_append_left _ ?_, rfl, q_iv_ok h (by omega) (by omega)⟩
      have e2 : (Nat.ble (q_eg env i).1 (j + 2147483648) && Nat.ble (j + 2147483648) (q_eg env i).2) = true := by rw [Nat.ble_eq_true_of_le (by omega), Nat.ble_eq_true_of_le (by omega)]; rfl
      rw [e2]
      exact List.mem_singleton.mpr rfl
    | succ m =>
      obtain ⟨q, h1, h2, h3⟩ := q_sw_ok h i ts (j + 1) m (by rw [List.length_cons] at hm; omega) (by rw [hv]; omega)
      exact ⟨q, List.mem_append_right _ h1, by rw [h2]; rfl, h3⟩
theorem q_swd_ok {env : qE} (h : q_En ρ env) (i a : Nat) (ts : List Nat) (hc : ¬ (0 ≤ (ρ i).toInt ∧ (ρ i).toInt.toNat < ts.length)) : ∃ q ∈ q_swd env i a ts, q.2 = a ∧ q_En ρ q.1 := by
  have hb := qB_int (ρ i)
  obtain ⟨g1, g2⟩ := q_eg_ok h i
  by_cases h0 : 0 ≤ (ρ i).toInt
  · refine ⟨(q_iv env i (Nat.max (q_eg env i).1 (2147483648 + ts.length)) (q_eg env i).2, a), List.mem_append_right _ ?_, rfl, q_iv_ok h (Nat.max_le.mpr ⟨g1, by omega⟩) g2⟩
    rw [Nat.ble_eq_true_of_le (by omega)]
    exact List.mem_singleton.mpr rfl
  · refine ⟨(q_iv env i (q_eg env i).1 (Nat.min (q_eg env i).2 2147483647), a), List.mem_append_left _ ?_, rfl, q_iv_ok h g1 (Nat.le_min.mpr ⟨g2, by omega⟩)⟩
    have e : Nat.blt (q_eg env i).1 2147483648 = true := by rw [q_blt]; exact decide_eq_true (by omega)
    rw [e]
    exact List.mem_singleton.mpr rfl
theorem q_row12 (hx : p.tables.exec = Jvm.exec) (hb : c.code = bytes) {x : Int32} {a b : Nat} {t : List Nat} (hdec : decode bytes pc = .ok (.tableswitch (q_off pc a) 0 ((t.length : Int) - 1) (t.map (q_off pc)).toArray, b)) {cells slots : Nat}
    (kk : W p l e0 R s m args below meth c H locs cells slots Q (F0 m (if 0 ≤ x.toInt ∧ x.toInt.toNat < t.length then t.getD x.toInt.toNat 0 else a) ls rest)) : W p l e0 R s m args below meth c H locs cells slots Q (F0 m pc ls (.int x :: rest)) := by
  by_cases hc : 0 ≤ x.toInt ∧ x.toInt.toNat < t.length
  · rw [if_pos hc] at kk
    refine lv_tableIn hx hb hdec (by omega) (by omega) (off := q_off pc (t.getD x.toInt.toNat 0)) ?_ (q_off_eq _ _) kk
    rw [Int.sub_zero, List.getElem?_toArray, List.getElem?_map, List.getD_eq_getElem?_getD, List.getElem?_eq_getElem hc.2]
    rfl
  · rw [if_neg hc] at kk
    exact lv_tableOut hx hb hdec (by omega) (q_off_eq _ _) kk
theorem q_ok12 (C : q_Cx p R s m args meth c A ρ sb mc ms scr L own bytes maxL init) (hok : q_ok own init e) (hdec : decode bytes (q_pc e) = .ok (q_ins e)) (hop : e.1 = 12) (hs : q_s12 e env h k sl lv stk = some nx) (hn : ∀ fr ∈ nx, q_WW p l e0 R s m args below meth c Q D A ρ sb maxL fr) : q_WW p l e0 R s m args below meth c Q D A ρ sb maxL (env, h, k, sl, q_pc e, lv, stk) := by
  obtain ⟨op, pc, v, a, b, w, t⟩ := e
  subst hop
  obtain ⟨hx, hb, hml, hown, hts, hsp, hA, hin, hscr, hmc, hms, hR1, hR2⟩ := C
  unfold q_s12 at hs
  rcases stk with _ | ⟨x, stk⟩
  · cases hs
  · intro ws tys H locs ls st ⟨hE, hH, hP, hD, hK, hS, hL, hT⟩
    obtain ⟨xv, st, rfl, hxv, hT9⟩ := hT.cons
    clear hT
    have hT := hT9
    clear hT9
    rcases q_bf hs with ⟨h0, hs⟩ | ⟨h0, hs⟩
    · have hg := q_go_in hs hn
      have ex := hxv.c0 h0
      subst ex
      refine q_row12 hx hb hdec ?_
      have hg := hg ws tys H locs ls st ⟨hE, hH, hP, hD, hK, hS, hL, hT⟩
      have e1 : (bif Nat.blt (qI x.2).toNatClampNeg t.length && decide (0 ≤ (qI x.2).toInt) then t.getD (qI x.2).toNatClampNeg 0 else a) = (if 0 ≤ (qI x.2).toInt ∧ (qI x.2).toInt.toNat < t.length then t.getD (qI x.2).toInt.toNat 0 else a) := by
        rw [q_blt]
        show (bif decide ((qI x.2).toInt.toNat < t.length) && _ then t.getD (qI x.2).toInt.toNat 0 else a) = _
        by_cases g1 : 0 ≤ (qI x.2).toInt <;> by_cases g2 : (qI x.2).toInt.toNat < t.length <;> simp [g1, g2]
      rw [← e1]
      exact hg
    · rcases q_bf hs with ⟨h1, hs⟩ | ⟨h1, hs⟩
      · have ht0 : x.1 = 1 := Nat.eq_of_beq_eq_true h1
        obtain ⟨x1, i⟩ := x
        subst ht0
        have ex : xv = .int (ρ i) := hxv
        subst ex
        cases hs
        refine q_row12 hx hb hdec ?_
        by_cases hc : 0 ≤ (ρ i).toInt ∧ (ρ i).toInt.toNat < t.length
        · rw [if_pos hc]
          obtain ⟨q, hq, h2, hE2⟩ := q_sw_ok hE i t 0 (ρ i).toInt.toNat hc.2 (by omega)
          rw [← h2]
          exact hn (q.1, h, k, sl, q.2, lv, stk) (List.mem_map.mpr ⟨q, List.mem_append_right _ hq, rfl⟩) ws tys H locs ls st ⟨hE2, hH, hP, hD, hK, hS, hL, hT⟩
        · rw [if_neg hc]
          obtain ⟨q, hq, h2, hE2⟩ := q_swd_ok hE i a t hc
          rw [← h2]
          exact hn (q.1, h, k, sl, q.2, lv, stk) (List.mem_map.mpr ⟨q, List.mem_append_left _ hq, rfl⟩) ws tys H locs ls st ⟨hE2, hH, hP, hD, hK, hS, hL, hT⟩
      · rcases q_bf hs with ⟨h2, hs⟩ | ⟨h2, hs⟩
        · have hk0 : q_knd x = 0 := by
            have ht0 : x.1 = 2 := Nat.eq_of_beq_eq_true h2
            unfold q_knd
            rw [ht0]
            rfl
          obtain ⟨xc, rfl⟩ := hxv.int hk0
          cases hs
          refine q_row12 hx hb hdec ?_
          by_cases hc : 0 ≤ xc.toInt ∧ xc.toInt.toNat < t.length
          · rw [if_pos hc]
            refine hn (env, h, k, sl, t.getD xc.toInt.toNat 0, lv, stk) (List.mem_cons_of_mem _ (List.mem_map.mpr ⟨t.getD xc.toInt.toNat 0, ?_, rfl⟩)) ws tys H locs ls st ⟨hE, hH, hP, hD, hK, hS, hL, hT⟩
            rw [List.getD_eq_getElem?_getD, List.getElem?_eq_getElem hc.2]
            exact List.getElem_mem _
          · rw [if_neg hc]
            exact hn _ List.mem_cons_self ws tys H locs ls st ⟨hE, hH, hP, hD, hK, hS, hL, hT⟩
        · cases hs
theorem q_ok13 (C : q_Cx p R s m args meth c A ρ sb mc ms scr L own bytes maxL init) (hok : q_ok own init e) (hdec : decode bytes (q_pc e) = .ok (q_ins e)) (hop : e.1 = 13) (hs : q_s13 e env h k sl lv stk = some nx) (hn : ∀ fr ∈ nx, q_WW p l e0 R s m args below meth c Q D A ρ sb maxL fr) : q_WW p l e0 R s m args below meth c Q D A ρ sb maxL (env, h, k, sl, q_pc e, lv, stk) := by
  obtain ⟨op, pc, v, a, b, w, t⟩ := e
  subst hop
  obtain ⟨hx, hb, hml, hown, hts, hsp, hA, hin, hscr, hmc, hms, hR1, hR2⟩ := C
  rcases stk with _ | ⟨x, stk⟩
  · unfold q_s13 at hs
    rcases v with _ | _ | _ | v <;> cases hs
  · intro ws tys H locs ls st ⟨hE, hH, hP, hD, hK, hS, hL, hT⟩
    obtain ⟨xv, st, rfl, hxv, hT9⟩ := hT.cons
    clear hT
    have hT := hT9
    clear hT9
    rcases v with _ | _ | _ | v
    · have hs : (bif Nat.beq (q_cat x) 1 then q_go env h k sl (pc + 1) lv (x :: x :: stk) else none) = some nx := hs
      obtain ⟨hc, hs⟩ := q_bt hs
      exact lv_dup hx hb hdec (hxv.cat.trans (Nat.eq_of_beq_eq_true hc)) (q_go_in hs hn ws tys H locs ls _ ⟨hE, hH, hP, hD, hK, hS, hL, hxv, hxv, hT⟩)
    · rcases stk with _ | ⟨y, stk⟩
      · have hs : (bif Nat.beq (q_cat x) 2 then q_go env h k sl (pc + 1) lv (x :: x :: []) else none) = some nx := hs
        obtain ⟨hc, hs⟩ := q_bt hs
        exact lv_dup2_2 hx hb hdec (hxv.cat.trans (Nat.eq_of_beq_eq_true hc)) (q_go_in hs hn ws tys H locs ls _ ⟨hE, hH, hP, hD, hK, hS, hL, hxv, hxv, hT⟩)
      · have hs : (bif Nat.beq (q_cat x) 2 then q_go env h k sl (pc + 1) lv (x :: x :: y :: stk) else (bif Nat.beq (q_cat y) 1 then q_go env h k sl (pc + 1) lv (x :: y :: x :: y :: stk) else none)) = some nx := hs
        rcases q_bf hs with ⟨hc, hs⟩ | ⟨hc, hs⟩
        · exact lv_dup2_2 hx hb hdec (hxv.cat.trans (Nat.eq_of_beq_eq_true hc)) (q_go_in hs hn ws tys H locs ls _ ⟨hE, hH, hP, hD, hK, hS, hL, hxv, hxv, hT⟩)
        · obtain ⟨hc2, hs⟩ := q_bt hs
          obtain ⟨yv, st, rfl, hyv, hT9⟩ := hT.cons
          clear hT
          have hT := hT9
          clear hT9
          have h1 : q_cat x = 1 := by
            unfold q_cat at hc ⊢
            cases hb1 : Nat.beq (q_knd x) 1 with
            | true => rw [hb1] at hc; cases hc
            | false => rfl
          exact lv_dup2_11 hx hb hdec (hxv.cat.trans h1) (hyv.cat.trans (Nat.eq_of_beq_eq_true hc2)) (q_go_in hs hn ws tys H locs ls _ ⟨hE, hH, hP, hD, hK, hS, hL, hxv, hyv, hxv, hyv, hT⟩)
    · have hs : (bif Nat.beq (q_cat x) 1 then q_go env h k sl (pc + 1) lv stk else none) = some nx := hs
      obtain ⟨hc, hs⟩ := q_bt hs
      exact lv_pop hx hb hdec (hxv.cat.trans (Nat.eq_of_beq_eq_true hc)) (q_go_in hs hn ws tys H locs ls _ ⟨hE, hH, hP, hD, hK, hS, hL, hT⟩)
    · cases hs
theorem q_vw {k : Nat} {r : vw_C} (h : vwCl[k]? = some r) : k < 100 := by
  have h1 := (List.getElem?_eq_some_iff.mp h).1
  have h2 : vwCl.length = 12 := rfl
  omega
def q_clsOk (r : vw_C) : Prop := (∀ w ∈ u_ws r.1 r.2.1 r.2.2, w ∈ qWS) ∧ (∃ ty0 : Nat → FieldType, ∀ k, k < r.2.2 → parseFieldDescriptor (r.2.1 k).2.2.1 = some (ty0 k)) ∧ (∀ a, a < r.2.2 → ∀ b, b < r.2.2 → a ≠ b → (r.2.1 a).2.1 ≠ (r.2.1 b).2.1)
def q_clsAll : Prop := ∀ (k : Nat) (r : vw_C), vwCl[k]? = some r → q_clsOk r
theorem q_in {n N : Nat} (h : n < N) (h2 : n < 2147483648) : vp_in (qI n) N := fun q => by
  rcases q with q | q
  · exact nI_pos (n := n) h2 q
  · have e : (qI n).toNatClampNeg = n := nI_clamp h2
    omega
theorem q_cl {n : Nat} (h2 : n < 2147483648) : (qI n).toNatClampNeg = n := nI_clamp h2
theorem q_RV.c6 {ws : va_W} {x : qV} {v : Value} (hx : q_RV ρ sb ws x v) (h0 : Nat.beq x.1 6 = true) : ∃ a e, ws[x.2]? = some (a, e) ∧ v = .ref a := by
  have ht0 : x.1 = 6 := Nat.eq_of_beq_eq_true h0
  obtain ⟨x1, x2⟩ := x
  subst ht0
  exact hx
theorem q_ok14 (C : q_Cx p R s m args meth c A ρ sb mc ms scr L own bytes maxL init) (hok : q_ok own init e) (hdec : decode bytes (q_pc e) = .ok (q_ins e)) (hcl : q_clsAll) (hop : e.1 = 14) (hs : q_s14 e env h k sl lv stk = some nx) (hn : ∀ fr ∈ nx, q_WW p l e0 R s m args below meth c Q D A ρ sb maxL fr) : q_WW p l e0 R s m args below meth c Q D A ρ sb maxL (env, h, k, sl, q_pc e, lv, stk) := by
  obtain ⟨op, pc, v, a, b, w, t⟩ := e
  subst hop
  obtain ⟨hx, hb, hml, hown, hts, hsp, hA, hin, hscr, hmc, hms, hR1, hR2⟩ := C
  unfold q_s14 at hs
  rcases stk with _ | ⟨x, stk⟩
  · cases hs
  · intro ws tys H locs ls st ⟨hE, hH, hP, hD, hK, hS, hL, hT⟩
    obtain ⟨xv, st, rfl, hxv, hT9⟩ := hT.cons
    clear hT
    have hT := hT9
    clear hT9
    obtain ⟨hk, hs⟩ := q_bt hs
    have hg := q_go_in hs hn
    simp only [Bool.and_eq_true, q_blt, decide_eq_true_eq] at hk
    obtain ⟨⟨⟨h6, hlt⟩, hkd⟩, hbn⟩ := hk
    have hkd : (h.1.get x.2).1 = v := Nat.eq_of_beq_eq_true hkd
    obtain ⟨a0, e1, he, rfl⟩ := hxv.c6 h6
    obtain ⟨r, hr, hbl, hw⟩ := hok
    have hv100 := q_vw hr
    obtain ⟨fs, rfl, hfl, hfv⟩ := (hH.2.2.1 _ _ _ he).obj (by rw [hkd]; exact hv100)
    rw [hkd] at he
    have hbl2 : b < fs.length := by rw [hfl]; exact hbn
    have hfb : fs[b]? = some (fs[b]) := List.getElem?_eq_getElem hbl2
    exact va_get (own := own) (ref := (r.2.1 b).1) (C := r.1) (T := r.2.1) (N := r.2.2) (ci := v) (index := a) (Ts := qWS) hx hb hts (hcl _ _ hr).1 hown hK hP x.2 (fs := fs) he hr b hbl (hts _ hw) (fun _ h => h) hfb hdec (hg ws tys H locs ls _ ⟨hE, hH, hP, hD, hK, hS, hL, hfv _ _ hfb, hT⟩)
theorem q_fit_ok {ws : va_W} {code : Nat} {ty : FieldType} {y : qV} {v : Value} (h1 : q_tyOk code ty) (h2 : q_fit code y = true) (hv : q_RV ρ sb ws y v) : narrow ty v = v ∧ fits ty v = true := by
  rcases code with _ | _ | _ | _ | cd
  · have h1 : ty = .int := h1
    subst h1
    obtain ⟨c, rfl⟩ := hv.int (Nat.eq_of_beq_eq_true h2)
    exact ⟨rfl, rfl⟩
  · have h1 : ty = .boolean := h1
    subst h1
    have h2 : (Nat.beq y.1 0 && Nat.ble y.2 1) = true := h2
    rw [Bool.and_eq_true] at h2
    have e1 := hv.c0 h2.1
    subst e1
    have h3 : y.2 = 0 ∨ y.2 = 1 := by have := Nat.le_of_ble_eq_true h2.2; omega
    rcases h3 with q | q <;> rw [q] <;> exact ⟨rfl, rfl⟩
  · have h1 : ty = .long := h1
    subst h1
    obtain ⟨c, rfl⟩ := hv.long (Nat.eq_of_beq_eq_true h2)
    exact ⟨rfl, rfl⟩
  · rcases (h1 : (∃ n, ty = .object n) ∨ ∃ t, ty = .array t) with ⟨n, rfl⟩ | ⟨t, rfl⟩ <;> rcases hv.rf (Nat.eq_of_beq_eq_true h2) with ⟨-, rfl⟩ | ⟨-, a, rfl⟩ <;> exact ⟨rfl, rfl⟩
  · exact (h1 : False).elim
theorem q_ok15 (C : q_Cx p R s m args meth c A ρ sb mc ms scr L own bytes maxL init) (hok : q_ok own init e) (hdec : decode bytes (q_pc e) = .ok (q_ins e)) (hcl : q_clsAll) (hop : e.1 = 15) (hs : q_s15 e env h k sl lv stk = some nx) (hn : ∀ fr ∈ nx, q_WW p l e0 R s m args below meth c Q D A ρ sb maxL fr) : q_WW p l e0 R s m args below meth c Q D A ρ sb maxL (env, h, k, sl, q_pc e, lv, stk) := by
  obtain ⟨op, pc, v, a, b, w, t⟩ := e
  subst hop
  obtain ⟨hx, hb, hml, hown, hts, hsp, hA, hin, hscr, hmc, hms, hR1, hR2⟩ := C
  unfold q_s15 at hs
  rcases stk with _ | ⟨y, _ | ⟨x, stk⟩⟩
  · cases hs
  · cases hs
  · intro ws tys H locs ls st ⟨hE, hH, hP, hD, hK, hS, hL, hT⟩
    obtain ⟨yv, st, rfl, hyv, hT9⟩ := hT.cons
    clear hT
    have hT := hT9
    clear hT9
    obtain ⟨xv, st, rfl, hxv, hT9⟩ := hT.cons
    clear hT
    have hT := hT9
    clear hT9
    obtain ⟨hk, hs⟩ := q_bt hs
    have hg := q_gh_in hs hn
    simp only [Bool.and_eq_true, q_blt, decide_eq_true_eq] at hk
    obtain ⟨⟨⟨⟨⟨h6, hlt⟩, hkd⟩, hbn⟩, hft⟩, -⟩ := hk
    have hkd : (h.1.get x.2).1 = v := Nat.eq_of_beq_eq_true hkd
    obtain ⟨a0, e1, he, rfl⟩ := hxv.c6 h6
    obtain ⟨r, hr, hbl, hw, ⟨ty, hpar, hty⟩, hfin⟩ := hok
    have hv100 := q_vw hr
    obtain ⟨fs, rfl, hfl, hfv⟩ := (hH.2.2.1 _ _ _ he).obj (by rw [hkd]; exact hv100)
    have hbl2 : b < fs.length := by rw [hfl]; exact hbn
    obtain ⟨c1, ⟨ty0, c2⟩, c3⟩ := hcl _ _ hr
    obtain ⟨n1, n2⟩ := q_fit_ok hty hft hyv
    have hH2 : q_Hp ρ sb (q_put h x.2 b y) (ws.set x.2 (a0, .inr ((h.1.get x.2).1, fs.set b yv))) tys := by
      refine hH.put he (Or.inl ⟨by rw [hkd]; exact hv100, fs.set b yv, rfl, by rw [List.length_set]; exact hfl, fun j vj hj => ?_⟩)
      have hjl : j < fs.length := by
        have := (List.getElem?_eq_some_iff.mp hj).1
        rwa [List.length_set] at this
      show q_RV ρ sb ws ((q_ts y b (h.1.get x.2).2.2 0 (h.1.get x.2).2.1).get j) vj
      rw [q_ts_get y b _ 0 _ j (Nat.zero_le _) hbn (Nat.zero_le _) (by rw [← hfl]; exact hjl)]
      by_cases hjb : j = b
      · subst hjb
        rw [List.getElem?_set_self hjl] at hj
        cases hj
        rw [if_pos rfl]
        exact hyv
      · rw [List.getElem?_set_ne (Ne.symm hjb)] at hj
        rw [if_neg hjb]
        exact hfv j vj hj
    have hex : q_ext ws (ws.set x.2 (a0, .inr ((h.1.get x.2).1, fs.set b yv))) := q_ext.set he
    rw [hkd] at he hH2 hex
    obtain ⟨cl, hl, hLs⟩ := hL
    have kk : ∀ (H1 : Heap) (locs1 : List Loc), va_P D vwCl (ws.set x.2 (a0, .inr (v, fs.set b yv))) H1 → va_D A (ws.set x.2 (a0, .inr (v, fs.set b yv))) → va_S A s.heap H1 locs1 → W p l e0 R s m args below meth c H1 locs1 k sl Q (F0 m (pc + 3) ls st) := fun H1 locs1 hP1 hD1 hS1 =>
      hg _ tys H1 locs1 ls st ⟨hE, hH2, hP1, hD1, hK, hS1, ⟨cl, hl, hLs.mono hex⟩, hT.mono hex⟩
    by_cases hf : (r.2.1 b).2.2.2 = true
    · exact va_putF (own := own) (ref := (r.2.1 b).1) (C := r.1) (T := r.2.1) (N := r.2.2) (ci := v) (index := a) (Ts := qWS) hx hb hts c1 ty0 c2 c3 hown hK hP hD hS x.2 (fs := fs) he hr b hbl (hts _ hw) (fun _ h => h) hf (hin (hfin hf).1) (hfin hf).2 hpar n1 n2 hbl2 hdec kk
    · exact va_put (own := own) (ref := (r.2.1 b).1) (C := r.1) (T := r.2.1) (N := r.2.2) (ci := v) (index := a) (Ts := qWS) hx hb hts c1 ty0 c2 c3 hown hK hP hD hS x.2 (fs := fs) he hr b hbl (hts _ hw) (fun _ h => h) (Bool.eq_false_iff.mpr hf) hpar n1 n2 hbl2 hdec kk
theorem q_ok19 (C : q_Cx p R s m args meth c A ρ sb mc ms scr L own bytes maxL init) (hok : q_ok own init e) (hdec : decode bytes (q_pc e) = .ok (q_ins e)) (hop : e.1 = 19) (hs : q_s19 scr L e env h k sl lv stk = some nx) (hn : ∀ fr ∈ nx, q_WW p l e0 R s m args below meth c Q D A ρ sb maxL fr) : q_WW p l e0 R s m args below meth c Q D A ρ sb maxL (env, h, k, sl, q_pc e, lv, stk) := by
  obtain ⟨op, pc, v, a, b, w, t⟩ := e
  subst hop
  obtain ⟨hx, hb, hml, hown, hts, hsp, hA, hin, hscr, hmc, hms, hR1, hR2⟩ := C
  unfold q_s19 at hs
  rcases stk with _ | ⟨x, stk⟩
  · cases hs
  · intro ws tys H locs ls st ⟨hE, hH, hP, hD, hK, hS, hL, hT⟩
    obtain ⟨xv, st, rfl, hxv, hT9⟩ := hT.cons
    clear hT
    have hT := hT9
    clear hT9
    rcases q_bf hs with ⟨hk, hs⟩ | ⟨hk, hs⟩
    · have hg := q_go_in hs hn
      simp only [Bool.and_eq_true, q_blt, q_ble, decide_eq_true_eq] at hk
      obtain ⟨⟨h6, hlt⟩, hkd⟩ := hk
      obtain ⟨a0, e1, he, rfl⟩ := hxv.c6 h6
      have hg := hg ws tys H locs ls (.int (Int32.ofNat (h.1.get x.2).2.1) :: st) ⟨hE, hH, hP, hD, hK, hS, hL, rfl, hT⟩
      rcases hH.2.2.1 _ _ _ he with ⟨h1, -⟩ | ⟨ty, -, cA, f, t0, rfl, h2, -⟩ | ⟨-, cA, f, t0, rfl, h2, -⟩ | ⟨ty, -, cA, f, t0, rfl, h2, -⟩
      · have h1 : (h.1.get x.2).1 < 100 := h1
        omega
      · exact va_alen hx hb hK hP x.2 t0 he h2 rfl hdec hg
      · exact va_alen hx hb hK hP x.2 t0 he h2 rfl hdec hg
      · exact va_alen hx hb hK hP x.2 t0 he h2 rfl hdec hg
    · obtain ⟨hk, hs⟩ := q_bt hs
      have hg := q_go_in hs hn
      rw [Bool.and_eq_true] at hk
      obtain ⟨x1, x2⟩ := x
      have ht0 : x1 = 9 := Nat.eq_of_beq_eq_true hk.2
      subst ht0
      have ex : xv = .ref sb.1 := hxv
      subst ex
      obtain ⟨g1, g2, g3⟩ := hscr hk.1
      exact va_slen hx hb g1 g2 g3 hS hdec (hg ws tys H locs ls _ ⟨hE, hH, hP, hD, hK, hS, hL, rfl, hT⟩)
theorem q_aldA {cells slots a : Nat} {tys : List (ClassId × FieldType)} {ws : va_W} (hexec : p.tables.exec = Jvm.exec) (hb : c.code = bytes) (hK : va_K D vwCl tys s) (hP : va_P D vwCl ws H) (q0 t0 : Nat) {cA : ClassId} {n : Nat} {f : Nat → Option Nat} (ha : ws[q0]? = some (a, .inl (cA, n, .inr (.inr (.inr (.inr f)))))) (ht : tys[t0]? = some (cA, .array .int)) {i : Int32} (hin : vp_in i n) (hdg : decode bytes pc = .ok (.aaload, 1))
    (kk : W p l e0 R s m args below meth c H locs cells slots Q (F0 m (pc + 1) ls (va_rf (f i.toNatClampNeg) :: rest))) : W p l e0 R s m args below meth c H locs cells slots Q (F0 m pc ls (.int i :: .ref a :: rest)) := by
  have hlt : i.toNatClampNeg < n := Nat.not_le.mp fun q => hin (Or.inr q)
  exact W.aald (v := va_rf (f i.toNatClampNeg)) (ty := .array .int) hexec hb (hP q0 _ ha) ((hK.2 t0 _ ht).1 n (fun j => va_rf (f j))) rfl (fun q => by cases q) (by show ¬ (i < 0 ∨ (arrV _ _ _).slots.size ≤ _); rw [arrV_size]; exact hin) (by show (arrV _ _ _).slots[_]? = _; rw [arrV_read _ _ hlt]) rfl rfl hdg kk
theorem q_ok20 (C : q_Cx p R s m args meth c A ρ sb mc ms scr L own bytes maxL init) (hok : q_ok own init e) (hdec : decode bytes (q_pc e) = .ok (q_ins e)) (hop : e.1 = 20) (hs : q_s20 scr L e env h k sl lv stk = some nx) (hn : ∀ fr ∈ nx, q_WW p l e0 R s m args below meth c Q D A ρ sb maxL fr) : q_WW p l e0 R s m args below meth c Q D A ρ sb maxL (env, h, k, sl, q_pc e, lv, stk) := by
  obtain ⟨op, pc, v, a, b, w, t⟩ := e
  subst hop
  obtain ⟨hx, hb, hml, hown, hts, hsp, hA, hin, hscr, hmc, hms, hR1, hR2⟩ := C
  unfold q_s20 at hs
  rcases stk with _ | ⟨y, _ | ⟨x, stk⟩⟩
  · cases hs
  · cases hs
  · intro ws tys H locs ls st ⟨hE, hH, hP, hD, hK, hS, hL, hT⟩
    obtain ⟨yv, st, rfl, hyv, hT9⟩ := hT.cons
    clear hT
    have hT := hT9
    clear hT9
    obtain ⟨xv, st, rfl, hxv, hT9⟩ := hT.cons
    clear hT
    have hT := hT9
    clear hT9
    rcases q_bf hs with ⟨hy0, hs⟩ | ⟨hy0, hs⟩
    · have ey := hyv.c0 hy0
      subst ey
      rcases q_bf hs with ⟨hk, hs⟩ | ⟨hk, hs⟩
      · have hg := q_go_in hs hn
        simp only [Bool.and_eq_true, q_blt, decide_eq_true_eq] at hk
        obtain ⟨⟨⟨⟨h6, hlt⟩, hkd⟩, hyl⟩, hy31⟩ := hk
        obtain ⟨a0, e1, he, rfl⟩ := hxv.c6 h6
        have hc := hH.2.2.1 _ _ _ he
        have hin := q_in hyl hy31
        have hcl := q_cl hy31
        have hgo : ∀ z : Value, q_RV ρ sb ws ((h.1.get x.2).2.2.get y.2) z → W p l e0 R s m args below meth c H locs k sl Q (F0 m (pc + 1) ls (z :: st)) := fun z hz => hg ws tys H locs ls (z :: st) ⟨hE, hH, hP, hD, hK, hS, hL, hz, hT⟩
        rcases v with _ | _ | _ | v
        · have hkd : (h.1.get x.2).1 = 100 := Nat.eq_of_beq_eq_true hkd
          obtain ⟨cA, f, t0, rfl, ht, hf⟩ := hc.ia (ty := .int) (by rw [hkd]; rfl)
          exact va_iald hx hb hK hP x.2 t0 he ht hin hdec (hgo _ (by rw [hcl]; exact hf _ hyl))
        · have hkd : (Nat.beq (h.1.get x.2).1 101 || Nat.beq (h.1.get x.2).1 102) = true := hkd
          rw [Bool.or_eq_true] at hkd
          rcases hkd with hkd | hkd
          · have hkd : (h.1.get x.2).1 = 101 := Nat.eq_of_beq_eq_true hkd
            obtain ⟨cA, f, t0, rfl, ht, hf⟩ := hc.ia (ty := .byte) (by rw [hkd]; rfl)
            exact va_bald hx hb hK hP x.2 t0 he ht hin hdec (hgo _ (by rw [hcl]; exact hf _ hyl))
          · have hkd : (h.1.get x.2).1 = 102 := Nat.eq_of_beq_eq_true hkd
            obtain ⟨cA, f, t0, rfl, ht, hf⟩ := hc.ia (ty := .boolean) (by rw [hkd]; rfl)
            exact va_zald hx hb hK hP x.2 t0 he ht hin hdec (hgo _ (by rw [hcl]; exact hf _ hyl))
        · have hkd : (h.1.get x.2).1 = 103 := Nat.eq_of_beq_eq_true hkd
          obtain ⟨cA, f, t0, rfl, ht, hf⟩ := hc.la hkd
          exact va_lald hx hb hK hP x.2 t0 he ht hin hdec (hgo _ (by rw [hcl]; exact hf _ hyl))
        · have hkd : 200 ≤ (h.1.get x.2).1 := Nat.le_of_ble_eq_true hkd
          obtain ⟨ty, hr, cA, f, t0, rfl, ht, hf⟩ := hc.ra hkd
          rcases hr with ⟨ci, r, -, -, -, rfl⟩ | ⟨-, rfl⟩
          · exact va_aldq hx hb hK hP x.2 t0 he ht hin hdec (hgo _ (by rw [hcl]; exact hf _ hyl))
          · exact q_aldA hx hb hK hP x.2 t0 he ht hin hdec (hgo _ (by rw [hcl]; exact hf _ hyl))
      · obtain ⟨hk, hs⟩ := q_bt hs
        have hg := q_go_in hs hn
        simp only [Bool.and_eq_true, q_blt, decide_eq_true_eq] at hk
        obtain ⟨⟨⟨⟨hsc, h9⟩, hyl⟩, hy31⟩, hv0⟩ := hk
        obtain ⟨x1, x2⟩ := x
        have ht0 : x1 = 9 := Nat.eq_of_beq_eq_true h9
        subst ht0
        have ex : xv = .ref sb.1 := hxv
        subst ex
        obtain ⟨g1, g2, g3⟩ := hscr hsc
        have hv0 : v = 0 := Nat.eq_of_beq_eq_true hv0
        subst hv0
        refine va_sld hx hb g1 g2 g3 hS (q_in hyl hy31) hdec (hg ws tys H locs ls _ ⟨hE, hH, hP, hD, hK, hS, hL, ?_, hT⟩)
        show Value.int _ = .int (ρ y.2)
        rw [q_cl hy31]
    · obtain ⟨h1, hs⟩ := q_bt hs
      have hg := q_spl_in hs hn
      obtain ⟨q, hq, hE2, hq2⟩ := q_spl_ok hE hyv h1
      exact hg q hq ws tys H locs ls _ ⟨hE2, hH, hP, hD, hK, hS, hL, hq2, hxv, hT⟩
end
end
section
-- 09.sound: stores, makings, Object's constructor, arraycopy
section
variable {p : Program} {l : Launch} {e0 : Env} {R : Room} {s : State} {m : MethodId} {args : Array Value} {below : List Frame} {meth : Method} {c : Code} {Q : State → Prop}
variable {D : va_G} {A : Nat → Prop} {ρ : Nat → Int32} {sb : Nat × va_W} {mc ms : Nat} {scr : Bool} {L : Nat} {own : String} {bytes : ByteArray} {maxL : Nat} {init : Bool}
variable {e : qN} {env : qE} {h : qH} {k sl : Nat} {lv : qL} {stk : List qV} {nx : List qF}
variable {H : Heap} {locs : List Loc} {pc : Nat} {ls : Array Slot} {rest : List Value} {ws : va_W} {tys : List (ClassId × FieldType)}
/-- a cell's contents with one place new -/
theorem q_up {α : Type} {mk : α → Value} {t : Lean.RArray qV} {n j : Nat} {x : qV} {v : α} {f g : Nat → α} (hj : j < n) (hx : q_RV ρ sb ws x (mk v)) (hf : ∀ i, i < n → q_RV ρ sb ws (t.get i) (mk (f i))) (hg1 : g j = v) (hg2 : ∀ i, i ≠ j → g i = f i) : ∀ i, i < n → q_RV ρ sb ws ((q_ts x j t 0 n).get i) (mk (g i)) := by
  intro i hi
  rw [q_ts_get x j t 0 n i (Nat.zero_le _) hj (Nat.zero_le _) hi]
  by_cases hij : i = j
  · subst hij
    rw [if_pos rfl, hg1]
    exact hx
  · rw [if_neg hij, hg2 i hij]
    exact hf i hi
theorem q_kep_ok {v kind : Nat} {x z : qV} {xv : Value} (hk : q_kep v kind x = some z) (hx : q_RV ρ sb ws x xv) :
    (v = 0 ∧ kind = 100 ∧ ∃ a, xv = .int a ∧ q_RV ρ sb ws z (.int a)) ∨ (v = 1 ∧ kind = 101 ∧ ∃ a, xv = .int a ∧ q_RV ρ sb ws z (.int (vp_nar .byte a))) ∨ (v = 1 ∧ kind = 102 ∧ ∃ a, xv = .int a ∧ q_RV ρ sb ws z (.int (vp_nar .boolean a))) ∨ (v = 2 ∧ kind = 103 ∧ ∃ a, xv = .long a ∧ q_RV ρ sb ws z (.long a)) := by
  rcases v with _ | _ | _ | v
  · have hk : (bif Nat.beq kind 100 && Nat.beq (q_knd x) 0 then some x else none) = some z := hk
    obtain ⟨h1, h2⟩ := q_bt hk
    rw [Bool.and_eq_true] at h1
    cases h2
    obtain ⟨a, rfl⟩ := hx.int (Nat.eq_of_beq_eq_true h1.2)
    exact Or.inl ⟨rfl, Nat.eq_of_beq_eq_true h1.1, a, rfl, hx⟩
  · have hk : (bif Nat.beq kind 101 && Nat.beq (q_knd x) 0 then some (bif Nat.beq x.1 0 then (0, qNn (vp_nar .byte (qI x.2))) else (2, 0)) else bif Nat.beq kind 102 && Nat.beq (q_knd x) 0 then some (bif Nat.beq x.1 0 then (0, qNn (vp_nar .boolean (qI x.2))) else (2, 0)) else none) = some z := hk
    rcases q_bf hk with ⟨h1, h2⟩ | ⟨-, hk⟩
    · rw [Bool.and_eq_true] at h1
      cases h2
      obtain ⟨a, rfl⟩ := hx.int (Nat.eq_of_beq_eq_true h1.2)
      refine Or.inr (Or.inl ⟨rfl, Nat.eq_of_beq_eq_true h1.1, a, rfl, ?_⟩)
      cases h0 : Nat.beq x.1 0 with
      | true =>
        have := Value.int.inj (hx.c0 h0)
        show Value.int _ = .int (qI (qNn _))
        rw [qI_N, this]
      | false => exact ⟨_, rfl⟩
    · obtain ⟨h1, h2⟩ := q_bt hk
      rw [Bool.and_eq_true] at h1
      cases h2
      obtain ⟨a, rfl⟩ := hx.int (Nat.eq_of_beq_eq_true h1.2)
      refine Or.inr (Or.inr (Or.inl ⟨rfl, Nat.eq_of_beq_eq_true h1.1, a, rfl, ?_⟩))
      cases h0 : Nat.beq x.1 0 with
      | true =>
        have := Value.int.inj (hx.c0 h0)
        show Value.int _ = .int (qI (qNn _))
        rw [qI_N, this]
      | false => exact ⟨_, rfl⟩
  · have hk : (bif Nat.beq kind 103 && Nat.beq (q_knd x) 1 then some x else none) = some z := hk
    obtain ⟨h1, h2⟩ := q_bt hk
    rw [Bool.and_eq_true] at h1
    cases h2
    obtain ⟨a, rfl⟩ := hx.long (Nat.eq_of_beq_eq_true h1.2)
    exact Or.inr (Or.inr (Or.inr ⟨rfl, Nat.eq_of_beq_eq_true h1.1, a, rfl, hx⟩))
  · cases hk
theorem q_ok21 (C : q_Cx p R s m args meth c A ρ sb mc ms scr L own bytes maxL init) (hok : q_ok own init e) (hdec : decode bytes (q_pc e) = .ok (q_ins e)) (hop : e.1 = 21) (hs : q_s21 e env h k sl lv stk = some nx) (hn : ∀ fr ∈ nx, q_WW p l e0 R s m args below meth c Q D A ρ sb maxL fr) : q_WW p l e0 R s m args below meth c Q D A ρ sb maxL (env, h, k, sl, q_pc e, lv, stk) := by
  obtain ⟨op, pc, v, a, b, w, t⟩ := e
  subst hop
  obtain ⟨hx, hb, hml, hown, hts, hsp, hA, hin, hscr, hmc, hms, hR1, hR2⟩ := C
  unfold q_s21 at hs
  rcases stk with _ | ⟨z, _ | ⟨y, _ | ⟨x, stk⟩⟩⟩
  · cases hs
  · cases hs
  · cases hs
  · intro ws tys H locs ls st ⟨hE, hH, hP, hD, hK, hS, hL, hT⟩
    have hH : q_Hp ρ sb h ws tys := hH
    obtain ⟨zv, st, rfl, hzv, hT9⟩ := hT.cons
    clear hT
    have hT := hT9
    clear hT9
    obtain ⟨yv, st, rfl, hyv, hT9⟩ := hT.cons
    clear hT
    have hT := hT9
    clear hT9
    obtain ⟨xv, st, rfl, hxv, hT9⟩ := hT.cons
    clear hT
    have hT := hT9
    clear hT9
    rcases q_bf hs with ⟨hy0, hs⟩ | ⟨hy0, hs⟩
    · have ey := hyv.c0 hy0
      subst ey
      obtain ⟨hk, hs⟩ := q_bt hs
      simp only [Bool.and_eq_true, q_blt, decide_eq_true_eq] at hk
      obtain ⟨⟨⟨h6, hlt⟩, hyl⟩, hy31⟩ := hk
      obtain ⟨a0, e1, he, rfl⟩ := hxv.c6 h6
      have hc := hH.2.2.1 _ _ _ he
      have hin1 := q_in hyl hy31
      have hcl := q_cl hy31
      obtain ⟨cl, hl, hLs⟩ := hL
      rcases q_bf hs with ⟨hv3, hs⟩ | ⟨hv3, hs⟩
      · obtain ⟨hk, hs⟩ := q_bt hs
        have hg := q_gh_in hs hn
        simp only [Bool.and_eq_true, q_blt, q_ble, decide_eq_true_eq] at hk
        obtain ⟨⟨⟨⟨k1, k2⟩, k3⟩, k4⟩, k5⟩ := hk
        have k5 : 200 + (h.1.get z.2).1 = (h.1.get x.2).1 := Nat.eq_of_beq_eq_true k5
        obtain ⟨z0, ez, hez, rfl⟩ := hzv.c6 k3
        obtain ⟨vs, rfl, -, -⟩ := (hH.2.2.1 _ _ _ hez).obj (by omega)
        obtain ⟨ty, hr, cA, f, t0, rfl, ht, hf⟩ := hc.ra k1
        rcases hr with ⟨ci, r, hr1, -, hr2, rfl⟩ | ⟨hr1, -⟩
        · have hci : (h.1.get z.2).1 = ci := by omega
          rw [hci] at hez
          obtain ⟨v3, rfl⟩ : ∃ u, v = u + 3 := ⟨v - 3, by have := Nat.le_of_ble_eq_true hv3; have : 3 ≤ v := this; omega⟩
          refine va_astq hx hb hK hP hD hS x.2 t0 z.2 ci he ht hez hr2 hin1 hdec fun H1 locs1 hP1 hD1 hS1 => ?_
          have hex : q_ext ws (ws.set x.2 (a0, .inl (cA, (h.1.get x.2).2.1, .inr (.inr (.inr (.inr (va_up f (qI y.2).toNatClampNeg (some z0)))))))) := q_ext.set he
          refine hg _ tys H1 locs1 ls st ⟨hE, hH.put he (Or.inr (Or.inr (Or.inr ⟨.object r.1, Or.inl ⟨ci, r, hr1, by show (h.1.get x.2).1 < 300; omega, hr2, rfl⟩, cA, _, t0, rfl, ht, ?_⟩))), hP1, hD1, hK, hS1, ⟨cl, hl, hLs.mono hex⟩, hT.mono hex⟩
          refine q_up (mk := va_rf) hyl (v := some z0) hzv hf ?_ ?_
          · show va_up f (qI y.2).toNatClampNeg (some z0) y.2 = _
            rw [hcl]
            exact va_up_self _ _ _
          · intro i hi
            show va_up f (qI y.2).toNatClampNeg (some z0) i = _
            rw [hcl]
            exact va_up_ne _ _ hi
        · omega
      · cases hkp : q_kep v (h.1.get x.2).1 z with
        | none =>
          have hs : (match q_kep v (h.1.get x.2).1 z with
            | none => none
            | some z' => q_fc z'.2 fun n => q_gh env (q_put h x.2 y.2 (z'.1, n)) k sl (pc + 1) lv stk) = some nx := hs
          rw [hkp] at hs
          cases hs
        | some z' =>
          have hs : (match q_kep v (h.1.get x.2).1 z with
            | none => none
            | some z' => q_fc z'.2 fun n => q_gh env (q_put h x.2 y.2 (z'.1, n)) k sl (pc + 1) lv stk) = some nx := hs
          rw [hkp] at hs
          have hs : (q_fc z'.2 fun n => q_gh env (q_put h x.2 y.2 (z'.1, n)) k sl (pc + 1) lv stk) = some nx := hs
          rw [q_fc_eq] at hs
          have hg := q_gh_in hs hn
          rcases q_kep_ok hkp hzv with ⟨rfl, hkd, za, rfl, hz⟩ | ⟨rfl, hkd, za, rfl, hz⟩ | ⟨rfl, hkd, za, rfl, hz⟩ | ⟨rfl, hkd, za, rfl, hz⟩
          · obtain ⟨cA, f, t0, rfl, ht, hf⟩ := hc.ia (ty := .int) (by rw [hkd]; rfl)
            refine va_iast hx hb hK hP hD hS x.2 t0 he ht hin1 hdec fun H1 locs1 hP1 hD1 hS1 => ?_
            have hex : q_ext ws (ws.set x.2 (a0, .inl (cA, (h.1.get x.2).2.1, .inl (upd f (qI y.2).toNatClampNeg za)))) := q_ext.set he
            refine hg _ tys H1 locs1 ls st ⟨hE, hH.put he (Or.inr (Or.inl ⟨.int, by show q_aT (h.1.get x.2).1 = _; rw [hkd]; rfl, cA, _, t0, rfl, ht, ?_⟩)), hP1, hD1, hK, hS1, ⟨cl, hl, hLs.mono hex⟩, hT.mono hex⟩
            exact q_up (mk := Value.int) hyl hz hf (by simp [upd, hcl]) (fun i hi => by simp [upd, hcl, hi])
          · obtain ⟨cA, f, t0, rfl, ht, hf⟩ := hc.ia (ty := .byte) (by rw [hkd]; rfl)
            refine va_bast hx hb hK hP hD hS x.2 t0 he ht hin1 hdec fun H1 locs1 hP1 hD1 hS1 => ?_
            have hex : q_ext ws (ws.set x.2 (a0, .inl (cA, (h.1.get x.2).2.1, .inl (upd f (qI y.2).toNatClampNeg (vp_nar .byte za))))) := q_ext.set he
            refine hg _ tys H1 locs1 ls st ⟨hE, hH.put he (Or.inr (Or.inl ⟨.byte, by show q_aT (h.1.get x.2).1 = _; rw [hkd]; rfl, cA, _, t0, rfl, ht, ?_⟩)), hP1, hD1, hK, hS1, ⟨cl, hl, hLs.mono hex⟩, hT.mono hex⟩
            exact q_up (mk := Value.int) hyl hz hf (by simp [upd, hcl]) (fun i hi => by simp [upd, hcl, hi])
          · obtain ⟨cA, f, t0, rfl, ht, hf⟩ := hc.ia (ty := .boolean) (by rw [hkd]; rfl)
            refine va_zast hx hb hK hP hD hS x.2 t0 he ht hin1 hdec fun H1 locs1 hP1 hD1 hS1 => ?_
            have hex : q_ext ws (ws.set x.2 (a0, .inl (cA, (h.1.get x.2).2.1, .inl (upd f (qI y.2).toNatClampNeg (vp_nar .boolean za))))) := q_ext.set he
            refine hg _ tys H1 locs1 ls st ⟨hE, hH.put he (Or.inr (Or.inl ⟨.boolean, by show q_aT (h.1.get x.2).1 = _; rw [hkd]; rfl, cA, _, t0, rfl, ht, ?_⟩)), hP1, hD1, hK, hS1, ⟨cl, hl, hLs.mono hex⟩, hT.mono hex⟩
            exact q_up (mk := Value.int) hyl hz hf (by simp [upd, hcl]) (fun i hi => by simp [upd, hcl, hi])
          · obtain ⟨cA, f, t0, rfl, ht, hf⟩ := hc.la hkd
            refine va_last hx hb hK hP hD hS x.2 t0 he ht hin1 hdec fun H1 locs1 hP1 hD1 hS1 => ?_
            have hex : q_ext ws (ws.set x.2 (a0, .inl (cA, (h.1.get x.2).2.1, .inr (.inl (vp_updL f (qI y.2).toNatClampNeg za))))) := q_ext.set he
            refine hg _ tys H1 locs1 ls st ⟨hE, hH.put he (Or.inr (Or.inr (Or.inl ⟨hkd, cA, _, t0, rfl, ht, ?_⟩))), hP1, hD1, hK, hS1, ⟨cl, hl, hLs.mono hex⟩, hT.mono hex⟩
            exact q_up (mk := Value.long) hyl hz hf (by simp [vp_updL, hcl]) (fun i hi => by simp [vp_updL, hcl, hi])
    · obtain ⟨h1, hs⟩ := q_bt hs
      have hg := q_spl_in hs hn
      obtain ⟨q, hq, hE2, hq2⟩ := q_spl_ok hE hyv h1
      exact hg q hq ws tys H locs ls _ ⟨hE2, hH, hP, hD, hK, hS, hL, hzv, hq2, hxv, hT⟩
theorem q_last {x : Nat × va_E} {n : Nat} (h : ws.length = n) : (ws ++ [x])[n]? = some x := by subst h; simp
theorem q_lastT {x : ClassId × FieldType} : (tys ++ [x])[tys.length]? = some x := by simp
theorem q_mk_in {cc : qC} {n pc : Nat} {P : qF → Prop} (hs : q_mk mc ms cc n env h k sl pc lv stk = some nx) (hn : ∀ fr ∈ nx, P fr) : h.2 < 1024 ∧ k + 1 ≤ mc ∧ sl + n ≤ ms ∧ P (env, (q_ts cc h.2 h.1 0 1024, h.2 + 1), k + 1, sl + n, pc, lv, (6, h.2) :: stk) := by
  unfold q_mk at hs
  obtain ⟨hk, hs⟩ := q_bt hs
  simp only [Bool.and_eq_true, q_blt, q_ble, decide_eq_true_eq] at hk
  rw [q_fc_eq, q_fc_eq, q_fc_eq] at hs
  exact ⟨hk.1.1, hk.1.2, hk.2, q_gh_in hs hn⟩
theorem q_ok16 (C : q_Cx p R s m args meth c A ρ sb mc ms scr L own bytes maxL init) (hok : q_ok own init e) (hdec : decode bytes (q_pc e) = .ok (q_ins e)) (hop : e.1 = 16) (hs : q_s16 mc ms e env h k sl lv stk = some nx) (hn : ∀ fr ∈ nx, q_WW p l e0 R s m args below meth c Q D A ρ sb maxL fr) : q_WW p l e0 R s m args below meth c Q D A ρ sb maxL (env, h, k, sl, q_pc e, lv, stk) := by
  obtain ⟨op, pc, v, a, b, w, t⟩ := e
  subst hop
  obtain ⟨hx, hb, hml, hown, hts, hsp, hA, hin, hscr, hmc, hms, hR1, hR2⟩ := C
  unfold q_s16 at hs
  rcases stk with _ | ⟨x, stk⟩
  · cases hs
  · intro ws tys H locs ls st ⟨hE, hH, hP, hD, hK, hS, hL, hT⟩
    have hH : q_Hp ρ sb h ws tys := hH
    obtain ⟨xv, st, rfl, hxv, hT9⟩ := hT.cons
    clear hT
    have hT := hT9
    clear hT9
    obtain ⟨hk, hs⟩ := q_bt hs
    rw [Bool.and_eq_true, q_blt] at hk
    have ex := hxv.c0 hk.1
    subst ex
    have hlt := of_decide_eq_true hk.2
    have h31 : x.2 < 2147483648 := by omega
    obtain ⟨m1, m2, m3, hg⟩ := q_mk_in hs hn
    obtain ⟨hw, hv3⟩ := hok
    have hv3 : v ≤ 3 := hv3
    obtain ⟨cl, hl, hLs⟩ := hL
    have hneg : ¬ qI x.2 < 0 := nI_pos (n := x.2) h31
    have hcl := q_cl h31
    have c1 : k + 1 ≤ R.cells := Nat.le_trans m2 hmc
    have c2 : sl + x.2 ≤ R.slots := Nat.le_trans m3 hms
    obtain rfl | rfl | rfl | rfl : v = 0 ∨ v = 1 ∨ v = 2 ∨ v = 3 := by omega
    · refine va_newa (atype := .int) (ty := .int) hx hb (hts _ hw) rfl hK hP hD hS hA (a0 := (x.2, .inl fun _ => 0)) (fun cA => rfl) hneg hcl (by show x.2 * 4 ≤ _; omega) c1 c2 hdec fun q cA H1 hK1 hP1 hD1 hS1 => ?_
      have hex : q_ext ws (ws ++ [(q, .inl (cA, x.2, .inl fun _ => 0))]) := q_ext.app
      exact hg _ _ H1 locs ls _ ⟨hE, hH.push m1 (Or.inr (Or.inl ⟨.int, rfl, cA, _, tys.length, rfl, q_lastT, fun j _ => rfl⟩)), hP1, hD1, hK1, hS1, ⟨cl, hl, hLs.mono hex⟩, ⟨q, _, q_last hH.1, rfl⟩, hT.mono hex⟩
    · refine va_newa (atype := .byte) (ty := .byte) hx hb (hts _ hw) rfl hK hP hD hS hA (a0 := (x.2, .inl fun _ => 0)) (fun cA => rfl) hneg hcl (by show x.2 * 1 ≤ _; omega) c1 c2 hdec fun q cA H1 hK1 hP1 hD1 hS1 => ?_
      have hex : q_ext ws (ws ++ [(q, .inl (cA, x.2, .inl fun _ => 0))]) := q_ext.app
      exact hg _ _ H1 locs ls _ ⟨hE, hH.push m1 (Or.inr (Or.inl ⟨.byte, rfl, cA, _, tys.length, rfl, q_lastT, fun j _ => rfl⟩)), hP1, hD1, hK1, hS1, ⟨cl, hl, hLs.mono hex⟩, ⟨q, _, q_last hH.1, rfl⟩, hT.mono hex⟩
    · refine va_newa (atype := .boolean) (ty := .boolean) hx hb (hts _ hw) rfl hK hP hD hS hA (a0 := (x.2, .inl fun _ => 0)) (fun cA => rfl) hneg hcl (by show x.2 * 1 ≤ _; omega) c1 c2 hdec fun q cA H1 hK1 hP1 hD1 hS1 => ?_
      have hex : q_ext ws (ws ++ [(q, .inl (cA, x.2, .inl fun _ => 0))]) := q_ext.app
      exact hg _ _ H1 locs ls _ ⟨hE, hH.push m1 (Or.inr (Or.inl ⟨.boolean, rfl, cA, _, tys.length, rfl, q_lastT, fun j _ => rfl⟩)), hP1, hD1, hK1, hS1, ⟨cl, hl, hLs.mono hex⟩, ⟨q, _, q_last hH.1, rfl⟩, hT.mono hex⟩
    · refine va_newa (atype := .long) (ty := .long) hx hb (hts _ hw) rfl hK hP hD hS hA (a0 := (x.2, .inr (.inl fun _ => 0))) (fun cA => rfl) hneg hcl (by show x.2 * 8 ≤ _; omega) c1 c2 hdec fun q cA H1 hK1 hP1 hD1 hS1 => ?_
      have hex : q_ext ws (ws ++ [(q, .inl (cA, x.2, .inr (.inl fun _ => 0)))]) := q_ext.app
      exact hg _ _ H1 locs ls _ ⟨hE, hH.push m1 (Or.inr (Or.inr (Or.inl ⟨rfl, cA, _, tys.length, rfl, q_lastT, fun j _ => rfl⟩))), hP1, hD1, hK1, hS1, ⟨cl, hl, hLs.mono hex⟩, ⟨q, _, q_last hH.1, rfl⟩, hT.mono hex⟩
theorem q_ok17 (C : q_Cx p R s m args meth c A ρ sb mc ms scr L own bytes maxL init) (hok : q_ok own init e) (hdec : decode bytes (q_pc e) = .ok (q_ins e)) (hop : e.1 = 17) (hs : q_s17 mc ms e env h k sl lv stk = some nx) (hn : ∀ fr ∈ nx, q_WW p l e0 R s m args below meth c Q D A ρ sb maxL fr) : q_WW p l e0 R s m args below meth c Q D A ρ sb maxL (env, h, k, sl, q_pc e, lv, stk) := by
  obtain ⟨op, pc, v, a, b, w, t⟩ := e
  subst hop
  obtain ⟨hx, hb, hml, hown, hts, hsp, hA, hin, hscr, hmc, hms, hR1, hR2⟩ := C
  unfold q_s17 at hs
  rcases stk with _ | ⟨x, stk⟩
  · cases hs
  · intro ws tys H locs ls st ⟨hE, hH, hP, hD, hK, hS, hL, hT⟩
    have hH : q_Hp ρ sb h ws tys := hH
    obtain ⟨xv, st, rfl, hxv, hT9⟩ := hT.cons
    clear hT
    have hT := hT9
    clear hT9
    obtain ⟨hk, hs⟩ := q_bt hs
    rw [Bool.and_eq_true, q_blt] at hk
    have ex := hxv.c0 hk.1
    subst ex
    have hlt := of_decide_eq_true hk.2
    have h31 : x.2 < 2147483648 := by omega
    obtain ⟨m1, m2, m3, hg⟩ := q_mk_in hs hn
    obtain ⟨r, hr, -, hv, hw1, hw2⟩ := hok
    have hv : v < 100 := hv
    obtain ⟨cl, hl, hLs⟩ := hL
    refine va_newq hx hb hown (hts _ hw1) (va_AO.of (hsp _ hw2)) hK hP hD hS hA (nI_pos (n := x.2) h31) (q_cl h31) (by omega) (Nat.le_trans m2 hmc) (Nat.le_trans m3 hms) hdec fun q cA H1 hK1 hP1 hD1 hS1 => ?_
    have hex : q_ext ws (ws ++ [(q, .inl (cA, x.2, .inr (.inr (.inr (.inr fun _ => none)))))]) := q_ext.app
    exact hg _ _ H1 locs ls _ ⟨hE, hH.push m1 (Or.inr (Or.inr (Or.inr ⟨.object r.1, Or.inl ⟨v, r, rfl, by show 200 + v < 300; omega, hr, rfl⟩, cA, fun _ => none, tys.length, rfl, q_lastT, fun j _ => rfl⟩))), hP1, hD1, hK1, hS1, ⟨cl, hl, hLs.mono hex⟩, ⟨q, _, q_last hH.1, rfl⟩, hT.mono hex⟩
/-- a new object's fields -/
def q_dvV (ty : Nat) : Value := match ty with
  | 0 => .int 0
  | 1 => .int 0
  | 2 => .long 0
  | _ => .null
theorem q_dv_ok (ty : Nat) : q_RV ρ sb ws (q_dv ty) (q_dvV ty) := by
  rcases ty with _ | _ | _ | ty <;> rfl
noncomputable def q_dtr (n : Nat) (l : List Nat) (i : Nat) : Lean.RArray qV := List.rec (motive := fun _ => Nat → Lean.RArray qV) (fun _ => .leaf (7, 0)) (fun ty _ ih i => q_ts (q_dv ty) i (ih (i + 1)) 0 n) l i
theorem q_dtr_get (n : Nat) : ∀ (l : List Nat) (i j : Nat), i + l.length ≤ n → i ≤ j → j < i + l.length → (q_dtr n l i).get j = q_dv (l.getD (j - i) 9)
  | [], i, j, _, h1, h2 => by rw [List.length_nil] at h2; omega
  | ty :: l, i, j, h0, h1, h2 => by
    rw [List.length_cons] at h0 h2
    show (q_ts (q_dv ty) i (q_dtr n l (i + 1)) 0 n).get j = _
    rw [q_ts_get _ i _ 0 n j (Nat.zero_le _) (by omega) (Nat.zero_le _) (by omega)]
    by_cases hj : j = i
    · rw [if_pos hj, hj, Nat.sub_self]
      rfl
    · rw [if_neg hj, q_dtr_get n l (i + 1) j (by omega) (by omega) (by omega)]
      have e : j - i = (j - (i + 1)) + 1 := by omega
      rw [e]
      rfl
theorem q_dvT {code : Nat} {ty : FieldType} (h : q_tyOk code ty) : defaultValue ty = q_dvV code := by
  rcases code with _ | _ | _ | _ | cd
  · have h : ty = .int := h
    subst h; rfl
  · have h : ty = .boolean := h
    subst h; rfl
  · have h : ty = .long := h
    subst h; rfl
  · rcases (h : (∃ n, ty = .object n) ∨ ∃ t, ty = .array t) with ⟨n, rfl⟩ | ⟨t, rfl⟩ <;> rfl
  · exact (h : False).elim
theorem q_ok22 (C : q_Cx p R s m args meth c A ρ sb mc ms scr L own bytes maxL init) (hok : q_ok own init e) (hdec : decode bytes (q_pc e) = .ok (q_ins e)) (hcl : q_clsAll) (hop : e.1 = 22) (hs : q_s22 mc ms e env h k sl lv stk = some nx) (hn : ∀ fr ∈ nx, q_WW p l e0 R s m args below meth c Q D A ρ sb maxL fr) : q_WW p l e0 R s m args below meth c Q D A ρ sb maxL (env, h, k, sl, q_pc e, lv, stk) := by
  obtain ⟨op, pc, v, a, b, w, t⟩ := e
  subst hop
  obtain ⟨hx, hb, hml, hown, hts, hsp, hA, hin, hscr, hmc, hms, hR1, hR2⟩ := C
  unfold q_s22 at hs
  intro ws tys H locs ls st ⟨hE, hH, hP, hD, hK, hS, hL, hT⟩
  have hH : q_Hp ρ sb h ws tys := hH
  obtain ⟨m1, m2, m3, hg⟩ := q_mk_in hs hn
  obtain ⟨r, hr, hv, hlen, hw1, hw2, hw3, hty⟩ := hok
  have hv : v < 100 := hv
  have hlen : r.2.2 = t.length := hlen
  have hty : ∀ j, j < r.2.2 → ∃ ty, parseFieldDescriptor (r.2.1 j).2.2.1 = some ty ∧ q_tyOk (t.getD j 9) ty := hty
  obtain ⟨ty, hty⟩ : ∃ ty : Nat → FieldType, ∀ j, j < r.2.2 → parseFieldDescriptor (r.2.1 j).2.2.1 = some (ty j) ∧ q_tyOk (t.getD j 9) (ty j) := by
    refine ⟨fun j => if hj : j < r.2.2 then Classical.choose (hty j hj) else .int, fun j hj => ?_⟩
    simp only [hj, dif_pos]
    exact Classical.choose_spec (hty j hj)
  obtain ⟨cl, hl, hLs⟩ := hL
  have hfv : ∀ (j : Nat) (x : Value), (t.map q_dvV)[j]? = some x → j < t.length ∧ x = q_dvV (t.getD j 9) := fun j x hj => by
    rw [List.getElem?_map] at hj
    by_cases hl : j < t.length
    · rw [List.getElem?_eq_getElem hl] at hj
      cases hj
      exact ⟨hl, by rw [List.getD_eq_getElem?_getD, List.getElem?_eq_getElem hl]; rfl⟩
    · rw [List.getElem?_eq_none (by omega)] at hj
      cases hj
  have m3 : sl + t.length ≤ ms := m3
  refine va_new (C := r.1) (T := r.2.1) (N := r.2.2) (ci := v) (index := a) (Ts := qWS) (fs := t.map q_dvV) hx hb hts (hcl _ _ hr).1 ty (fun j hj => (hty j hj).1) hown (hts _ hw1) (hts _ hw2) (hts _ hw3) hK hP hD hS hA hr ?_ (Nat.le_trans m2 hmc) (by rw [hlen]; exact Nat.le_trans m3 hms) hdec fun q H1 hP1 hD1 hS1 => ?_
  · intro j hj
    rw [q_dvT (hty j hj).2]
    have hj2 : j < t.length := by rw [← hlen]; exact hj
    show _ = (t.map q_dvV).getD j .null
    rw [List.getD_eq_getElem?_getD, List.getD_eq_getElem?_getD, List.getElem?_map, List.getElem?_eq_getElem hj2]
    rfl
  · have hex : q_ext ws (ws ++ [(q, .inr (v, t.map q_dvV))]) := q_ext.app
    rw [hlen]
    have hHp := hH.push (q := q) (e1 := .inr (v, t.map q_dvV)) (t := []) m1 (c1 := (v, t.length, q_dt t t.length)) (Or.inl ⟨hv, t.map q_dvV, rfl, by rw [List.length_map], fun j x hj => ?_⟩)
    · rw [List.append_nil] at hHp
      exact hg _ _ H1 locs ls _ ⟨hE, hHp, hP1, hD1, hK, hS1, ⟨cl, hl, hLs.mono hex⟩, ⟨q, _, q_last hH.1, rfl⟩, hT.mono hex⟩
    · obtain ⟨g1, rfl⟩ := hfv j x hj
      show q_RV ρ sb _ ((q_dtr t.length t 0).get j) _
      rw [q_dtr_get t.length t 0 j (by omega) (Nat.zero_le _) (by omega)]
      exact q_dv_ok _
theorem q_ok25 (C : q_Cx p R s m args meth c A ρ sb mc ms scr L own bytes maxL init) (hok : q_ok own init e) (hdec : decode bytes (q_pc e) = .ok (q_ins e)) (hop : e.1 = 25) (hs : q_s25 e env h k sl lv stk = some nx) (hn : ∀ fr ∈ nx, q_WW p l e0 R s m args below meth c Q D A ρ sb maxL fr) : q_WW p l e0 R s m args below meth c Q D A ρ sb maxL (env, h, k, sl, q_pc e, lv, stk) := by
  obtain ⟨op, pc, v, a, b, w, t⟩ := e
  subst hop
  obtain ⟨hx, hb, hml, hown, hts, hsp, hA, hin, hscr, hmc, hms, hR1, hR2⟩ := C
  unfold q_s25 at hs
  rcases stk with _ | ⟨x, stk⟩
  · cases hs
  · intro ws tys H locs ls st ⟨hE, hH, hP, hD, hK, hS, hL, hT⟩
    obtain ⟨xv, st, rfl, hxv, hT9⟩ := hT.cons
    clear hT
    have hT := hT9
    clear hT9
    obtain ⟨hk, hs⟩ := q_bt hs
    rw [Bool.and_eq_true] at hk
    have hg := q_go_in hs hn
    obtain ⟨a0, e1, he, rfl⟩ := hxv.c6 hk.1
    have hsum := hT.cats
    have h8 := Nat.le_of_ble_eq_true hk.2
    refine W.objInit hx hb hown (hts _ hok.1) (hts _ hok.2.1) (hts _ hok.2.2) rfl ?_ rfl hdec hR1 ?_ (hg ws tys H locs ls _ ⟨hE, hH, hP, hD, hK, hS, hL, hT⟩)
    · obtain ⟨cl, hl, -⟩ := hL
      rw [hml]
      exact hl.1
    · show 2 * 0 + (st.map fun v => v.category).sum + 12 ≤ R.locals
      omega
theorem q_cpy_get (src dst : Lean.RArray qV) (sp dp N : Nat) : ∀ (n j : Nat), dp + n ≤ N → j < N → (q_cpy src dst sp dp n N).get j = if dp ≤ j ∧ j < dp + n then src.get (sp + (j - dp)) else dst.get j
  | 0, j, _, _ => by
    rw [if_neg (by omega)]
    rfl
  | n + 1, j, h1, h2 => by
    show (q_ts (src.get (sp + n)) (dp + n) (q_cpy src dst sp dp n N) 0 N).get j = _
    rw [q_ts_get _ _ _ 0 N j (Nat.zero_le _) (by omega) (Nat.zero_le _) h2, q_cpy_get src dst sp dp N n j (by omega) h2]
    by_cases hj : j = dp + n
    · rw [if_pos hj, if_pos (by omega), hj, Nat.add_sub_cancel_left]
    · rw [if_neg hj]
      by_cases hc : dp ≤ j ∧ j < dp + n
      · rw [if_pos hc, if_pos (by omega)]
      · rw [if_neg hc, if_neg (by omega)]
theorem q_ok26 (C : q_Cx p R s m args meth c A ρ sb mc ms scr L own bytes maxL init) (hok : q_ok own init e) (hdec : decode bytes (q_pc e) = .ok (q_ins e)) (hop : e.1 = 26) (hs : q_s26 e env h k sl lv stk = some nx) (hn : ∀ fr ∈ nx, q_WW p l e0 R s m args below meth c Q D A ρ sb maxL fr) : q_WW p l e0 R s m args below meth c Q D A ρ sb maxL (env, h, k, sl, q_pc e, lv, stk) := by
  obtain ⟨op, pc, v, a, b, w, t⟩ := e
  subst hop
  obtain ⟨hx, hb, hml, hown, hts, hsp, hA, hin, hscr, hmc, hms, hR1, hR2⟩ := C
  unfold q_s26 at hs
  rcases stk with _ | ⟨n, _ | ⟨dp, _ | ⟨y, _ | ⟨sp, _ | ⟨x, stk⟩⟩⟩⟩⟩
  · cases hs
  · cases hs
  · cases hs
  · cases hs
  · cases hs
  · intro ws tys H locs ls st ⟨hE, hH, hP, hD, hK, hS, hL, hT⟩
    have hH : q_Hp ρ sb h ws tys := hH
    obtain ⟨nv, st, rfl, hnv, hT9⟩ := hT.cons
    clear hT
    have hT := hT9
    clear hT9
    obtain ⟨dpv, st, rfl, hdpv, hT9⟩ := hT.cons
    clear hT
    have hT := hT9
    clear hT9
    obtain ⟨yv, st, rfl, hyv, hT9⟩ := hT.cons
    clear hT
    have hT := hT9
    clear hT9
    obtain ⟨spv, st, rfl, hspv, hT9⟩ := hT.cons
    clear hT
    have hT := hT9
    clear hT9
    obtain ⟨xv, st, rfl, hxv, hT9⟩ := hT.cons
    clear hT
    have hT := hT9
    clear hT9
    obtain ⟨hk, hs⟩ := q_bt hs
    have hg := q_gh_in hs hn
    simp only [Bool.and_eq_true, Bool.or_eq_true, q_blt, q_ble, decide_eq_true_eq] at hk
    obtain ⟨⟨⟨⟨⟨⟨⟨⟨⟨⟨⟨⟨⟨⟨k1, k2⟩, k3⟩, k4⟩, k5⟩, k6⟩, k7⟩, k8⟩, k9⟩, k10⟩, k11⟩, k12⟩, k13⟩, k14⟩, k15⟩ := hk
    have e1 := hnv.c0 k1
    subst e1
    have e2 := hdpv.c0 k2
    subst e2
    have e3 := hspv.c0 k3
    subst e3
    obtain ⟨x0, ex, hex, rfl⟩ := hxv.c6 k4
    obtain ⟨y0, ey, hey, rfl⟩ := hyv.c6 k5
    have k8 : (h.1.get x.2).1 = (h.1.get y.2).1 := Nat.eq_of_beq_eq_true k8
    obtain ⟨cl, hl, hLs⟩ := hL
    have hsum := hT.cats
    have hloc : (st.map fun v => v.category).sum + (nativeFrameWords "java/lang/System" "arraycopy" 5 + 11) ≤ R.locals := by
      have : nativeFrameWords "java/lang/System" "arraycopy" 5 ≤ 60 := by decide +kernel
      omega
    have n1 : ¬ qI sp.2 < 0 := nI_pos (n := sp.2) k12
    have n2 : ¬ qI dp.2 < 0 := nI_pos (n := dp.2) k13
    have n3 : ¬ qI n.2 < 0 := nI_pos (n := n.2) k14
    have m1 := q_cl k12
    have m2 := q_cl k13
    have m3 := q_cl k14
    have hget : ∀ j, j < (h.1.get y.2).2.1 → (bif Nat.beq sp.2 0 && Nat.beq dp.2 0 && Nat.beq n.2 (h.1.get y.2).2.1 then (h.1.get x.2).2.2 else q_cpy (h.1.get x.2).2.2 (h.1.get y.2).2.2 sp.2 dp.2 n.2 (h.1.get y.2).2.1).get j = if dp.2 ≤ j ∧ j < dp.2 + n.2 then (h.1.get x.2).2.2.get (sp.2 + (j - dp.2)) else (h.1.get y.2).2.2.get j := fun j hj => by
      cases hb0 : (Nat.beq sp.2 0 && Nat.beq dp.2 0 && Nat.beq n.2 (h.1.get y.2).2.1) with
      | true =>
        simp only [Bool.and_eq_true] at hb0
        have g1 : sp.2 = 0 := Nat.eq_of_beq_eq_true hb0.1.1
        have g2 : dp.2 = 0 := Nat.eq_of_beq_eq_true hb0.1.2
        have g3 : n.2 = (h.1.get y.2).2.1 := Nat.eq_of_beq_eq_true hb0.2
        rw [if_pos (by omega), g1, g2, Nat.sub_zero, Nat.zero_add]
        rfl
      | false => exact q_cpy_get _ _ _ _ _ _ j k11 hj
    rcases k9 with k9 | k9
    · have k9 : (h.1.get x.2).1 = 100 := Nat.eq_of_beq_eq_true k9
      obtain ⟨c0, f, t0, rfl, ht0, hf⟩ := (hH.2.2.1 _ _ _ hex).ia (ty := .int) (by rw [k9]; rfl)
      obtain ⟨c1, g, t1, rfl, ht1, hgg⟩ := (hH.2.2.1 _ _ _ hey).ia (ty := .int) (by rw [← k8, k9]; rfl)
      refine va_copyi hx hb (by rw [hml]; exact hl.1.symm) hown (hts _ hok.1) (hts _ hok.2.1) (hts _ hok.2.2.1) (hts _ hok.2.2.2) hK hP hD hS x.2 y.2 t0 t1 hex hey ht0 ht1 rfl n1 n2 n3 (by rw [m1, m3]; exact k10) (by rw [m2, m3]; exact k11) (fun _ _ => rfl) hR1 hloc hdec fun H1 locs1 hP1 hD1 hS1 => ?_
      have hxx : q_ext ws (ws.set y.2 (y0, .inl (c1, (h.1.get y.2).2.1, .inl (va_cpy f g (qI sp.2).toNatClampNeg (qI dp.2).toNatClampNeg (qI n.2).toNatClampNeg)))) := q_ext.set hey
      refine hg _ tys H1 locs1 ls st ⟨hE, hH.put hey (Or.inr (Or.inl ⟨.int, by show q_aT (h.1.get y.2).1 = _; rw [← k8, k9]; rfl, c1, _, t1, rfl, ht1, fun j hj => ?_⟩)), hP1, hD1, hK, hS1, ⟨cl, hl, hLs.mono hxx⟩, hT.mono hxx⟩
      show q_RV ρ sb ws ((bif Nat.beq sp.2 0 && Nat.beq dp.2 0 && Nat.beq n.2 (h.1.get y.2).2.1 then (h.1.get x.2).2.2 else q_cpy (h.1.get x.2).2.2 (h.1.get y.2).2.2 sp.2 dp.2 n.2 (h.1.get y.2).2.1).get j) (.int (va_cpy f g (qI sp.2).toNatClampNeg (qI dp.2).toNatClampNeg (qI n.2).toNatClampNeg j))
      rw [hget j hj, m1, m2, m3]
      unfold va_cpy
      by_cases hc : dp.2 ≤ j ∧ j < dp.2 + n.2
      · rw [if_pos hc, if_pos hc]
        exact hf _ (by omega)
      · rw [if_neg hc, if_neg hc]
        exact hgg _ hj
    · have k9 : (h.1.get x.2).1 = 103 := Nat.eq_of_beq_eq_true k9
      obtain ⟨c0, f, t0, rfl, ht0, hf⟩ := (hH.2.2.1 _ _ _ hex).la k9
      obtain ⟨c1, g, t1, rfl, ht1, hgg⟩ := (hH.2.2.1 _ _ _ hey).la (by rw [← k8, k9])
      refine va_copyl hx hb (by rw [hml]; exact hl.1.symm) hown (hts _ hok.1) (hts _ hok.2.1) (hts _ hok.2.2.1) (hts _ hok.2.2.2) hK hP hD hS x.2 y.2 t0 t1 hex hey ht0 ht1 rfl n1 n2 n3 (by rw [m1, m3]; exact k10) (by rw [m2, m3]; exact k11) (fun _ _ => rfl) hR1 hloc hdec fun H1 locs1 hP1 hD1 hS1 => ?_
      have hxx : q_ext ws (ws.set y.2 (y0, .inl (c1, (h.1.get y.2).2.1, .inr (.inl (va_cpy f g (qI sp.2).toNatClampNeg (qI dp.2).toNatClampNeg (qI n.2).toNatClampNeg))))) := q_ext.set hey
      refine hg _ tys H1 locs1 ls st ⟨hE, hH.put hey (Or.inr (Or.inr (Or.inl ⟨by show (h.1.get y.2).1 = _; rw [← k8, k9], c1, _, t1, rfl, ht1, fun j hj => ?_⟩))), hP1, hD1, hK, hS1, ⟨cl, hl, hLs.mono hxx⟩, hT.mono hxx⟩
      show q_RV ρ sb ws ((bif Nat.beq sp.2 0 && Nat.beq dp.2 0 && Nat.beq n.2 (h.1.get y.2).2.1 then (h.1.get x.2).2.2 else q_cpy (h.1.get x.2).2.2 (h.1.get y.2).2.2 sp.2 dp.2 n.2 (h.1.get y.2).2.1).get j) (.long (va_cpy f g (qI sp.2).toNatClampNeg (qI dp.2).toNatClampNeg (qI n.2).toNatClampNeg j))
      rw [hget j hj, m1, m2, m3]
      unfold va_cpy
      by_cases hc : dp.2 ≤ j ∧ j < dp.2 + n.2
      · rw [if_pos hc, if_pos hc]
        exact hf _ (by omega)
      · rw [if_neg hc, if_neg hc]
        exact hgg _ hj
end
end
section
-- 10.meth: rows of rows; any instruction; methods
section
variable {p : Program} {l : Launch} {e0 : Env} {R : Room} {s : State} {m : MethodId} {args : Array Value} {below : List Frame} {meth : Method} {c : Code} {Q : State → Prop}
variable {D : va_G} {A : Nat → Prop} {ρ : Nat → Int32} {sb : Nat × va_W} {mc ms : Nat} {scr : Bool} {L : Nat} {own : String} {bytes : ByteArray} {maxL : Nat} {init : Bool}
variable {e : qN} {env : qE} {h : qH} {k sl : Nat} {lv : qL} {stk : List qV} {nx : List qF}
variable {H : Heap} {locs : List Loc} {pc : Nat} {ls : Array Slot} {rest : List Value} {ws : va_W} {tys : List (ClassId × FieldType)}
def q_HpW (ρ : Nat → Int32) (sb : Nat × va_W) (h : qH) (ws W1 : va_W) (tys : List (ClassId × FieldType)) : Prop := ws.length = h.2 ∧ h.2 ≤ 1024 ∧ ∀ (k a : Nat) (e : va_E), ws[k]? = some (a, e) → q_Rc ρ sb W1 tys (h.1.get k) e
theorem q_HpW.push {h : qH} {W1 : va_W} (hH : q_HpW ρ sb h ws W1 tys) (hn : h.2 < 1024) {q : Nat} {e1 : va_E} {c1 : qC} (hc : q_Rc ρ sb W1 tys c1 e1) : q_HpW ρ sb (q_ts c1 h.2 h.1 0 1024, h.2 + 1) (ws ++ [(q, e1)]) W1 tys := by
  obtain ⟨h1, h2, h3⟩ := hH
  refine ⟨by rw [List.length_append, h1]; rfl, hn, fun j b e2 hj => ?_⟩
  have hjl : j < ws.length + 1 := by
    have := (List.getElem?_eq_some_iff.mp hj).1
    rwa [List.length_append] at this
  show q_Rc ρ sb _ _ ((q_ts c1 h.2 h.1 0 1024).get j) e2
  rw [q_ts_get c1 h.2 h.1 0 1024 j (Nat.zero_le _) (by omega) (Nat.zero_le _) (by omega)]
  by_cases hjk : j = h.2
  · rw [if_pos hjk]
    rw [List.getElem?_append_right (by omega), hjk, h1, Nat.sub_self] at hj
    cases hj
    exact hc
  · rw [if_neg hjk]
    rw [List.getElem?_append_left (by omega)] at hj
    exact h3 j b e2 hj
theorem q_rows_ok {W1 : va_W} {r : Nat → Nat} {cy : ClassId} {mm t0 : Nat} (ht : tys[t0]? = some (cy, .int)) : ∀ (n : Nat) (h : qH) (ws : va_W), q_HpW ρ sb h ws W1 tys → h.2 + n ≤ 1024 → q_HpW ρ sb (q_rows n mm h) (ws ++ (List.range n).map (fun i => (r i, .inl (cy, mm, .inl fun _ => 0)))) W1 tys ∧ (q_rows n mm h).2 = h.2 + n
  | 0, h, ws, hH, _ => ⟨by rw [List.range_zero, List.map_nil, List.append_nil]; exact hH, rfl⟩
  | n + 1, h, ws, hH, hn => by
    obtain ⟨h1, h2⟩ := q_rows_ok (r := r) ht n h ws hH (by omega)
    rw [List.range_succ, List.map_append, ← List.append_assoc]
    refine ⟨h1.push (by omega) (c1 := (100, mm, .leaf (0, 0))) (Or.inr (Or.inl ⟨.int, rfl, cy, fun _ => 0, t0, rfl, ht, fun j _ => rfl⟩)), ?_⟩
    show (q_rows n mm h).2 + 1 = _
    omega
noncomputable def q_idr (N at_ n : Nat) : Lean.RArray qV := Nat.rec (motive := fun _ => Lean.RArray qV) (.leaf (7, 0)) (fun i ih => q_ts (6, at_ + i) i ih 0 N) n
theorem q_idr_get (N at_ : Nat) : ∀ (n j : Nat), n ≤ N → j < n → (q_idr N at_ n).get j = (6, at_ + j)
  | 0, j, _, h => by omega
  | n + 1, j, h1, h2 => by
    show (q_ts (6, at_ + n) n (q_idr N at_ n) 0 N).get j = _
    rw [q_ts_get _ n _ 0 N j (Nat.zero_le _) (by omega) (Nat.zero_le _) (by omega)]
    by_cases hj : j = n
    · rw [if_pos hj, hj]
    · rw [if_neg hj, q_idr_get N at_ n j (by omega) (by omega)]
theorem q_ok18 (C : q_Cx p R s m args meth c A ρ sb mc ms scr L own bytes maxL init) (hok : q_ok own init e) (hdec : decode bytes (q_pc e) = .ok (q_ins e)) (hop : e.1 = 18) (hs : q_s18 mc ms e env h k sl lv stk = some nx) (hn : ∀ fr ∈ nx, q_WW p l e0 R s m args below meth c Q D A ρ sb maxL fr) : q_WW p l e0 R s m args below meth c Q D A ρ sb maxL (env, h, k, sl, q_pc e, lv, stk) := by
  obtain ⟨op, pc, v, a, b, w, t⟩ := e
  subst hop
  obtain ⟨hx, hb, hml, hown, hts, hsp, hA, hin, hscr, hmc, hms, hR1, hR2⟩ := C
  unfold q_s18 at hs
  rcases stk with _ | ⟨y, _ | ⟨x, stk⟩⟩
  · cases hs
  · cases hs
  · intro ws tys H locs ls st ⟨hE, hH, hP, hD, hK, hS, hL, hT⟩
    have hH : q_Hp ρ sb h ws tys := hH
    obtain ⟨yv, st, rfl, hyv, hT9⟩ := hT.cons
    clear hT
    have hT := hT9
    clear hT9
    obtain ⟨xv, st, rfl, hxv, hT9⟩ := hT.cons
    clear hT
    have hT := hT9
    clear hT9
    obtain ⟨hk, hs⟩ := q_bt hs
    rw [q_fc_eq, q_fc_eq] at hs
    have hg := q_gh_in hs hn
    simp only [Bool.and_eq_true, q_blt, q_ble, decide_eq_true_eq] at hk
    obtain ⟨⟨⟨⟨⟨⟨k1, k2⟩, k3⟩, k4⟩, k5⟩, k6⟩, k7⟩ := hk
    have e1 := hxv.c0 k1
    subst e1
    have e2 := hyv.c0 k2
    subst e2
    have n1 : ¬ qI x.2 < 0 := nI_pos (n := x.2) (by omega)
    have n2 : ¬ qI y.2 < 0 := nI_pos (n := y.2) (by omega)
    have m1 := q_cl (n := x.2) (by omega)
    have m2 := q_cl (n := y.2) (by omega)
    obtain ⟨hw1, hw2, hw3⟩ := hok
    obtain ⟨cy, kA, comp, f1, f2, f3⟩ := Cond.arrayClass_spec (hts _ hw3)
    have hcy : s.vm.findClass (FieldType.array .int).toString = some cy := f1
    have hAr : ArrOfT s cy .int := fun n z => ⟨(fun k h => by cases h), kA, f2, comp, f3⟩
    have hRA : va_RA s cy .int := f1
    have hP0 : va_P D vwCl (ws ++ va_pl [] (fun _ => (.inl (cy, 0, .inl fun _ => 0) : va_E))) H := by
      show va_P D vwCl (ws ++ []) H
      rw [List.append_nil]
      exact hP
    have hD0 : va_D A (ws ++ va_pl [] (fun _ => (.inl (cy, 0, .inl fun _ => 0) : va_E))) := by
      show va_D A (ws ++ [])
      rw [List.append_nil]
      exact hD
    obtain ⟨cl, hl, hLs⟩ := hL
    refine va_mna (X := ws) (L := []) (f := fun _ => .inl (cy, 0, .inl fun _ => 0)) (ty := .int) (z := (y.2, .inl fun _ => 0)) hx hb hown (hts _ hw1) (hsp _ hw2) (hts _ hw3) hcy hK hP0 hD0 hS hA n1 n2 m1 m2 (by omega) (by show y.2 * 4 ≤ _; omega) (by omega) rfl rfl (by show k + (1 + x.2) ≤ R.cells; omega) (by show sl + (x.2 + x.2 * y.2) ≤ R.slots; omega) (fun c => arrV_new _ _ _) hdec fun q r cA H1 _ _ hK1 hP1 hD1 hS1 => ?_
    have hpl : va_pl ([] ++ (List.range x.2).map r) (vr_up (fun _ => (.inl (cy, 0, .inl fun _ => 0) : va_E)) ((List.range x.2).map r) (.inl (cy, (y.2, .inl fun _ => 0)))) = (List.range x.2).map (fun i => (r i, .inl (cy, y.2, .inl fun _ => 0))) := by
      unfold va_pl
      rw [List.nil_append, List.map_map]
      apply List.map_congr_left
      intro i hi
      show (r i, vr_up _ _ _ (r i)) = _
      rw [vr_up_in (List.mem_map.mpr ⟨i, hi, rfl⟩)]
    rw [hpl] at hP1 hD1
    have hK2 : va_K D vwCl ((tys ++ [(cA, .array .int)]) ++ [(cy, .int)]) s := hK1.app ⟨hK1.1, fun j q hj => by
      have hz : j < 1 := (List.getElem?_eq_some_iff.mp hj).1
      rw [show j = 0 by omega] at hj
      cases hj
      exact ⟨hAr, hRA⟩⟩
    generalize hWW : (ws ++ [(q, .inl (cA, x.2, .inr (.inr (.inr (.inr fun i => if i < x.2 then some (r i) else none)))))]) ++ (List.range x.2).map (fun i => ((r i, .inl (cy, y.2, .inl fun _ => 0)) : Nat × va_E)) = W1 at hP1 hD1
    have hex : q_ext ws W1 := by
      rw [← hWW, List.append_assoc]
      exact q_ext.app
    have hty : (tys ++ [(cA, .array .int)] ++ [(cy, FieldType.int)])[tys.length + 1]? = some (cy, .int) := by simp
    have hty2 : (tys ++ [(cA, FieldType.array .int)] ++ [(cy, FieldType.int)])[tys.length]? = some (cA, .array .int) := by simp
    have hW0 : q_HpW ρ sb h ws W1 ((tys ++ [(cA, .array .int)]) ++ [(cy, .int)]) := ⟨hH.1, hH.2.1, fun j b e2 hj => (hH.2.2.1 j b e2 hj).mono hex (fun i x hx => q_tyapp i x (q_tyapp i x hx))⟩
    have hrow : ∀ j, j < x.2 → W1[h.2 + 1 + j]? = some (r j, .inl (cy, y.2, .inl fun _ => 0)) := fun j hj => by
      rw [← hWW, List.getElem?_append_right (by rw [List.length_append, hH.1]; show h.2 + 1 ≤ _; omega), List.length_append, hH.1]
      show ((List.range x.2).map _)[h.2 + 1 + j - (h.2 + 1)]? = _
      rw [Nat.add_sub_cancel_left, List.getElem?_map, List.getElem?_range hj]
      rfl
    have hW2 := hW0.push (q := q) (e1 := .inl (cA, x.2, .inr (.inr (.inr (.inr fun i => if i < x.2 then some (r i) else none))))) (c1 := (300, x.2, q_ids (h.2 + 1) x.2)) (by omega) (Or.inr (Or.inr (Or.inr ⟨.array .int, Or.inr ⟨rfl, rfl⟩, cA, _, tys.length, rfl, hty2, fun j hj => by
      have hj : j < x.2 := hj
      show q_RV ρ sb W1 ((q_idr x.2 (h.2 + 1) x.2).get j) (va_rf (if j < x.2 then some (r j) else none))
      rw [q_idr_get x.2 (h.2 + 1) x.2 j (Nat.le_refl _) hj, if_pos hj]
      exact ⟨r j, _, hrow j hj, rfl⟩⟩)))
    obtain ⟨hW3, hlen⟩ := q_rows_ok (r := r) (mm := y.2) hty x.2 _ _ hW2 (by show h.2 + 1 + x.2 ≤ 1024; omega)
    rw [hWW] at hW3
    refine hg W1 _ H1 locs ls _ ⟨hE, ⟨hW3.1, hW3.2.1, hW3.2.2, hH.2.2.2.tr hex⟩, hP1, hD1, hK2, hS1, ⟨cl, hl, hLs.mono hex⟩, ⟨q, .inl (cA, x.2, .inr (.inr (.inr (.inr fun i => if i < x.2 then some (r i) else none)))), ?_, rfl⟩, hT.mono hex⟩
    rw [← hWW, List.getElem?_append_left (by rw [List.length_append, hH.1]; exact Nat.lt_succ_self _)]
    exact q_last hH.1
theorem q_step_ok (C : q_Cx p R s m args meth c A ρ sb mc ms scr L own bytes maxL init) (hok : q_ok own init e) (hdec : decode bytes (q_pc e) = .ok (q_ins e)) (hcl : q_clsAll) (hs : q_step mc ms scr L maxL e env h k sl lv stk = some nx) (hn : ∀ fr ∈ nx, q_WW p l e0 R s m args below meth c Q D A ρ sb maxL fr) : q_WW p l e0 R s m args below meth c Q D A ρ sb maxL (env, h, k, sl, q_pc e, lv, stk) := by
  unfold q_step at hs
  generalize hop : e.1 = op at hs
  rcases op with _ | _ | _ | _ | _ | _ | _ | _ | _ | _ | _ | _ | _ | _ | _ | _ | _ | _ | _ | _ | _ | _ | _ | _ | _ | _ | _ | _ | op
  · exact q_ok0 C hok hdec hop hs hn
  · exact q_ok1 C hok hdec hop hs hn
  · exact q_ok2 C hok hdec hop hs hn
  · exact q_ok3 C hok hdec hop hs hn
  · exact q_ok4 C hok hdec hop hs hn
  · exact q_ok5 C hok hdec hop hs hn
  · exact q_ok6 C hok hdec hop hs hn
  · exact q_ok7 C hok hdec hop hs hn
  · exact q_ok8 C hok hdec hop hs hn
  · exact q_ok9 C hok hdec hop hs hn
  · exact q_ok10 C hok hdec hop hs hn
  · exact q_ok11 C hok hdec hop hs hn
  · exact q_ok12 C hok hdec hop hs hn
  · exact q_ok13 C hok hdec hop hs hn
  · exact q_ok14 C hok hdec hcl hop hs hn
  · exact q_ok15 C hok hdec hcl hop hs hn
  · exact q_ok16 C hok hdec hop hs hn
  · exact q_ok17 C hok hdec hop hs hn
  · exact q_ok18 C hok hdec hop hs hn
  · exact q_ok19 C hok hdec hop hs hn
  · exact q_ok20 C hok hdec hop hs hn
  · exact q_ok21 C hok hdec hop hs hn
  · exact q_ok22 C hok hdec hcl hop hs hn
  · cases hs
  · cases hs
  · exact q_ok25 C hok hdec hop hs hn
  · exact q_ok26 C hok hdec hop hs hn
  · exact q_ok27 C hok hdec hop hs hn
  · cases hs
end
end
section
-- 11.call: words that stay; what a call is
theorem q_AOA_spec {A : Array Value} {s : State} {t : FieldType} (h : (Cond.arrayOver (.array t)).before A s = true) :
    ∃ comp c k, s.vm.findClass (FieldType.array t).toString = some comp ∧ (s.vm.classes.findIdx? fun x => match x.kind with | .array component _ => component == comp | _ => false) = some c ∧ s.vm.classes[c]? = some k ∧ k.kind = .array comp (.array t) ∧
      s.vm.findClass ("[" ++ (FieldType.array t).toString) = some c := by
  simp only [Cond.before, Cond.holds, Cond.value, beq_iff_eq] at h
  cases hc : s.vm.findClass (FieldType.array t).toString with
  | none => simp [hc] at h
  | some comp =>
    simp only [hc, Option.bind_some, Option.bind_eq_some_iff, Option.map_eq_some_iff] at h
    obtain ⟨c, hi, k, hk, hb⟩ := h
    obtain ⟨hlt, hp, -⟩ := Array.findIdx?_eq_some_iff_getElem.mp hi
    have hkk : s.vm.classes[c] = k := (Array.getElem?_eq_some_iff.mp hk).2
    rw [hkk] at hp
    cases hkind : k.kind with
    | array component ty =>
      rw [hkind] at hb hp
      simp at hb hp
      exact ⟨comp, c, k, rfl, hi, hk, by rw [hkind, hp, hb.1], hb.2⟩
    | _ => rw [hkind] at hb; simp at hb
theorem q_AOA_moved {t : FieldType} {u U : State} (hvm : u.vm.Alike U.vm) (h : va_Nw (.arrayOver (.array t)) u) : va_Nw (.arrayOver (.array t)) U := by
  obtain ⟨comp, c, k, h1, h2, h3, h4, h5⟩ := q_AOA_spec h
  obtain ⟨k', hk', he⟩ := hvm.2.2 _ _ h3
  have hi : (U.vm.classes.findIdx? fun (x : Class) => match x.kind with | .array component _ => component == comp | _ => false) = some c := by
    refine (va_idx_bare U.vm comp).symm.trans ?_
    first | rw [hvm.bare_eq] | rw [← hvm.bare_eq]
    exact (va_idx_bare u.vm comp).trans h2
  have hkind : k'.kind = .array comp (.array t) := by rw [he]; exact h4
  have f1 : U.vm.findClass (FieldType.array t).toString = some comp := by rw [hvm.findClass]; exact h1
  have f2 : U.vm.findClass ("[" ++ (FieldType.array t).toString) = some c := by rw [hvm.findClass]; exact h5
  unfold va_Nw Cond.before Cond.holds
  simp only [Cond.value]
  rw [f1, Option.bind_some]
  refine (congrArg (fun o : Option Nat => (o.bind (fun c => (U.vm.classes[c]?).map fun (k : Class) => match k.kind with | .array _ ty => decide (ty = FieldType.array t) && decide (U.vm.findClass ("[" ++ (FieldType.array t).toString) = some c) | _ => false) == some true)) hi).trans ?_
  simp [hk', hkind, f2]
theorem q_sp_warm {w : Cond} (hw : q_isSp w = true) {s U : State} (hW : s.WarmedH U.vm) (h : va_Nw w s) : va_Nw w U := by
  cases w
  case methodLinkNest a i x h9 => exact va_Nw.warmM hW h
  case arrayOver ty =>
    cases ty
    case object n => exact va_AO.moved hW.alike h
    case array t => exact q_AOA_moved hW.alike h
    all_goals exact absurd h (by simp [va_Nw, Cond.before, Cond.holds, Cond.value])
  case stringRef own k tx =>
    have h1 : (Cond.stringRef own k tx).before #[] (s.setVm U.vm) = true := Cond.stringRef_warmed hW h
    have hv : U.vm = (s.setVm U.vm).vm := rfl
    first
      | exact va_tabs rfl hv.symm h1
      | (simp only [va_Nw, Cond.before, Cond.holds, Cond.value, State.names, State.poolOf?, State.resolvedAt?] at h1 ⊢; exact h1)
  all_goals exact absurd hw (by simp [q_isSp])
theorem q_sp_same {w : Cond} (hw : q_isSp w = true) {s U : State} (hv : U.vm = s.vm) (h : va_Nw w s) : va_Nw w U := by
  cases w
  case methodLinkNest a i x h9 => exact va_Nw.same rfl hv.symm h
  case arrayOver ty =>
    cases ty
    case object n => exact va_AO.moved (u := s) (by rw [hv]; exact Vm.Alike.refl _) h
    case array t => exact q_AOA_moved (u := s) (by rw [hv]; exact Vm.Alike.refl _) h
    all_goals exact absurd h (by simp [va_Nw, Cond.before, Cond.holds, Cond.value])
  case stringRef own k tx =>
    first
      | exact va_tabs rfl hv.symm h
      | (simp only [va_Nw, Cond.before, Cond.holds, Cond.value, State.names, State.poolOf?, State.resolvedAt?, hv] at h ⊢; exact h)
  all_goals exact absurd hw (by simp [q_isSp])
theorem q_XW.warm {s U : State} (hW : s.WarmedH U.vm) (h : q_XW s) : q_XW U := fun w hw => q_sp_warm (List.mem_filter.mp hw).2 hW (h w hw)
theorem q_XW.same {s U : State} (hv : U.vm = s.vm) (h : q_XW s) : q_XW U := fun w hw => q_sp_same (List.mem_filter.mp hw).2 hv (h w hw)
-- a method's parts
abbrev q_mY (M : qM) : MethodName := M.1
abbrev q_mB (M : qM) : ByteArray := M.2.1
abbrev q_mL (M : qM) : Nat := M.2.2.1
abbrev q_mT (M : qM) : Option FieldType := M.2.2.2.1
abbrev q_mC (M : qM) : Nat := M.2.2.2.2.1
abbrev q_mK (M : qM) : Nat := M.2.2.2.2.2.1
abbrev q_mA (M : qM) : Nat := M.2.2.2.2.2.2.1
abbrev q_mc (M : qM) : Nat := M.2.2.2.2.2.2.2.1
abbrev q_ms (M : qM) : Nat := M.2.2.2.2.2.2.2.2.1
abbrev q_mI (M : qM) : Lean.RArray qN := M.2.2.2.2.2.2.2.2.2
/-- what a return answers -/
def q_rvo (T : Option FieldType) (v : Nat) (stk : List qV) : Option (Option qV) := match stk with
  | [] => (match T with
    | none => bif Nat.beq v 0 then some none else none
    | _ => none)
  | [x] => (match T with
    | some .int => bif Nat.beq v 1 && Nat.beq (q_knd x) 0 then some (some x) else none
    | some .boolean => bif Nat.beq v 1 && (Nat.beq x.1 0 && Nat.ble x.2 1) then some (some x) else none
    | some .long => bif Nat.beq v 2 && Nat.beq (q_knd x) 1 then some (some x) else none
    | some (.object _) => bif Nat.beq v 3 && Nat.beq (q_knd x) 2 then some (some x) else none
    | some (.array _) => bif Nat.beq v 3 && Nat.beq (q_knd x) 2 then some (some x) else none
    | _ => none)
  | _ => none
def q_args : Nat → List qV → qL
  | _, [] => []
  | i, x :: xs => (i, x) :: q_args (bif Nat.beq (q_cat x) 2 then i + 2 else i + 1) xs
/-- the receiver of a call by its kind: 0 none, 1 any cell, 2 a cell of that class -/
noncomputable def q_rcv (kind ci : Nat) (h : qH) (av : List qV) : Bool := match kind with
  | 0 => true
  | 1 => (match av with
    | x :: _ => Nat.beq x.1 6 && Nat.blt x.2 h.2
    | [] => false)
  | _ => (match av with
    | x :: _ => Nat.beq x.1 6 && Nat.blt x.2 h.2 && Nat.beq (h.1.get x.2).1 ci
    | [] => false)
abbrev q_call : Type := Nat → qE → qH → List qV → (qO → Prop) → Prop
/-- what a frame says of the machine's state -/
def q_cc (fr : qF) (ρ : Nat → Int32) (sb : Nat × va_W) (ws : va_W) (tys : List (ClassId × FieldType)) (cl : List (Nat × Value)) (st : List Value) : Prop := q_En ρ fr.1 ∧ q_Hp ρ sb fr.2.1 ws tys ∧ q_Ls ρ sb ws fr.2.2.2.2.2.1 cl ∧ q_Sk ρ sb ws fr.2.2.2.2.2.2 st
/-- some frame of I says as much -/
def q_cov (fr : qF) (I : qF → Prop) : Prop := ∀ (ρ : Nat → Int32) (sb : Nat × va_W) (ws : va_W) (tys : List (ClassId × FieldType)) (cl : List (Nat × Value)) (st : List Value), q_cc fr ρ sb ws tys cl st → ∃ f, I f ∧ f.2.2.1 = fr.2.2.1 ∧ f.2.2.2.1 = fr.2.2.2.1 ∧ f.2.2.2.2.1 = fr.2.2.2.2.1 ∧ q_cc f ρ sb ws tys cl st
/-- one more instruction, calls by 'call' -/
def q_GS (tab : Nat → qM) (call : q_call) (M : qM) (scr : Bool) (L : Nat) (G : qF → (qO → Prop) → Prop) (fr : qF) (P : qO → Prop) : Prop :=
  (q_pc ((q_mI M).get fr.2.2.2.2.1) = fr.2.2.2.2.1 ∧
    ((((q_mI M).get fr.2.2.2.2.1).1 = 24 ∧ ∃ r, q_rvo (q_mT M) (q_v ((q_mI M).get fr.2.2.2.2.1)) fr.2.2.2.2.2.2 = some r ∧ fr.2.2.1 ≤ q_mc M ∧ fr.2.2.2.1 ≤ q_ms M ∧ P (fr.1, fr.2.1, r)) ∨
    (((q_mI M).get fr.2.2.2.2.1).1 = 23 ∧ ∃ (av rest : List qV), fr.2.2.2.2.2.2 = av.reverse ++ rest ∧ av.length = (if q_mK (tab (q_w ((q_mI M).get fr.2.2.2.2.1))) = 0 then q_mA (tab (q_w ((q_mI M).get fr.2.2.2.2.1))) else q_mA (tab (q_w ((q_mI M).get fr.2.2.2.2.1))) + 1) ∧
      q_rcv (q_mK (tab (q_w ((q_mI M).get fr.2.2.2.2.1)))) (q_mC (tab (q_w ((q_mI M).get fr.2.2.2.2.1)))) fr.2.1 av = true ∧ (rest.map q_cat).sum ≤ 8 ∧
      fr.2.2.1 + q_mc (tab (q_w ((q_mI M).get fr.2.2.2.2.1))) ≤ q_mc M ∧ fr.2.2.2.1 + q_ms (tab (q_w ((q_mI M).get fr.2.2.2.2.1))) ≤ q_ms M ∧
      call (q_w ((q_mI M).get fr.2.2.2.2.1)) fr.1 fr.2.1 av (fun o => G (o.1, o.2.1, fr.2.2.1 + q_mc (tab (q_w ((q_mI M).get fr.2.2.2.2.1))), fr.2.2.2.1 + q_ms (tab (q_w ((q_mI M).get fr.2.2.2.2.1))), fr.2.2.2.2.1 + 3, fr.2.2.2.2.2.1, o.2.2.toList ++ rest) P)) ∨
    (∃ nx, q_step (q_mc M) (q_ms M) scr L (q_mL M) ((q_mI M).get fr.2.2.2.2.1) fr.1 fr.2.1 fr.2.2.1 fr.2.2.2.1 fr.2.2.2.2.2.1 fr.2.2.2.2.2.2 = some nx ∧ ∀ f ∈ nx, G f P))) ∨
    (∃ I : qF → Prop, q_cov fr I ∧ ∀ f, I f → G f P)
/-- from a frame every run comes to a return with P, within n instructions of this method -/
def q_GF (tab : Nat → qM) (call : q_call) (M : qM) (scr : Bool) (L : Nat) : Nat → qF → (qO → Prop) → Prop
  | 0, _, _ => False
  | n + 1, fr, P => q_GS tab call M scr L (q_GF tab call M scr L n) fr P
/-- a method called: every run of it comes to a return with P; at most d calls deep -/
def q_GM (tab : Nat → qM) : Nat → q_call
  | 0, _, _, _, _, _ => False
  | d + 1, id, env, h, av, P => (av.map q_cat).sum ≤ q_mL (tab id) ∧ ∃ n, q_GF tab (q_GM tab d) (tab id) false 0 n (env, h, 0, 0, 0, q_args 0 av, []) P
-- what must hold of the tables
def q_yOk (M : qM) : Prop := Cond.code (q_mY M) (q_mB M) (q_mL M) (q_mT M) ∈ qWS ∧ Cond.initialized (q_mY M).cls ∈ qWS ∧ (q_mY M).cls ≠ "java/lang/invoke/MethodHandle" ∧ (q_mY M).cls ≠ "java/lang/invoke/VarHandle" ∧ (parseMethodDescriptor (q_mY M).desc).map (fun d => d.parameters.length) = some (q_mA M) ∧ q_mL M ≤ 81 ∧ plainName (q_mY M).cls = true ∧
  (q_mK M = 0 → Cond.static (q_mY M) ∈ qWS) ∧ (q_mK M = 1 → (q_mY M).name = "<init>" ∧ Cond.instanceMethod (q_mY M) ∈ qWS ∧ q_mT M = none) ∧ (q_mK M = 2 → Cond.instanceMethod (q_mY M) ∈ qWS ∧ Cond.selects (q_mY M).cls (q_mY M) (q_mY M) ∈ qWS ∧ ∃ r, vwCl[q_mC M]? = some r ∧ r.1 = (q_mY M).cls) ∧ q_mK M ≤ 2
def q_iOk (tab : Nat → qM) (own : String) (init : Bool) (bytes : ByteArray) (e : qN) : Prop := decode bytes (q_pc e) = .ok (q_ins e) ∧ q_ok own init e ∧ (e.1 = 23 → q_v e = q_mK (tab (q_w e)) ∧ (Cond.methodLink own (q_a e) (q_mY (tab (q_w e))) ∈ qWS ∨ ∃ host, Cond.methodLinkNest own (q_a e) (q_mY (tab (q_w e))) host ∈ qSP))
def q_mOk (tab : Nat → qM) (init : Bool) (M : qM) : Prop := ∀ pc, q_iOk tab (q_mY M).cls init (q_mB M) ((q_mI M).get pc)
/-- all that is promised of the table: each method's instructions are its own -/
def q_tabOk (tab : Nat → qM) : Prop := q_clsAll ∧ ∀ id, q_mOk tab (Nat.beq (q_mK (tab id)) 1) (tab id) ∧ q_yOk (tab id)
-- contracts
def q_res (ρ : Nat → Int32) (sb : Nat × va_W) (ws : va_W) (r : Option qV) (v : Option Value) : Prop := match r, v with
  | none, none => True
  | some x, some y => q_RV ρ sb ws x y
  | _, _ => False
def q_B (D : va_G) (ws : va_W) (tys : List (ClassId × FieldType)) (sz : Nat) (U : State) : Prop := U.heap.size = sz ∧ va_P D vwCl ws U.heap ∧ va_K D vwCl tys U ∧ va_D (fun _ => True) ws ∧ q_XW U
def q_Q (ρ : Nat → Int32) (b : Nat) (D : va_G) (ws : va_W) (sz : Nat) (P : qO → Prop) : Array Value → State → Outcome → State → Prop := fun _ st oc t =>
  (∃ (o : qO) (v : Option Value) (ws' : va_W) (tys' : List (ClassId × FieldType)), oc = .returned v ∧ P o ∧ q_res ρ (b, ws) ws' o.2.2 v ∧ q_En ρ o.1 ∧ q_Hp ρ (b, ws) o.2.1 ws' tys' ∧ va_P D vwCl ws' t.heap ∧ va_K D vwCl tys' t ∧ va_D (va_A ws sz) ws') ∧ va_F (va_A ws sz) st t
abbrev q_rm (d : Nat) (M : qM) : Room := { frames := d + 1, cells := q_mc M, slots := q_ms M, locals := 100 * (d + 2) }
abbrev q_words (M : qM) : List Cond := Cond.code (q_mY M) (q_mB M) (q_mL M) (q_mT M) :: qWS
def q_Snd (l : Launch) (tab : Nat → qM) (d id : Nat) (env : qE) (h : qH) (av : List qV) (P : qO → Prop) : Prop :=
  ∀ (ρ : Nat → Int32) (b : Nat) (D : va_G) (ws : va_W) (tys : List (ClassId × FieldType)) (sz : Nat) (vals : List Value), q_En ρ env → q_Hp ρ (b, ws) h ws tys → q_Sk ρ (b, ws) ws av vals →
    Met l (q_mY (tab id)) (q_words (tab id)) (q_rm d (tab id)) (va_Pc vals (q_B D ws tys sz)) (q_Q ρ b D ws sz P) (q_mc (tab id)) (q_ms (tab id)) (va_A ws sz)
theorem q_good : GoodIn qWS qWS := fun w h => ⟨h, good_of_word (List.mem_filter.mp h).2⟩
theorem q_goodM {M : qM} (h : Cond.code (q_mY M) (q_mB M) (q_mL M) (q_mT M) ∈ qWS) : GoodIn qWS (q_words M) := fun w hw => by
  rcases List.mem_cons.mp hw with rfl | hw
  · exact q_good _ h
  · exact q_good _ hw
theorem q_Sk.split {ρ : Nat → Int32} {sb : Nat × va_W} {ws : va_W} : ∀ {xs ys : List qV} {vs : List Value}, q_Sk ρ sb ws (xs ++ ys) vs → ∃ v1 v2, vs = v1 ++ v2 ∧ q_Sk ρ sb ws xs v1 ∧ q_Sk ρ sb ws ys v2
  | [], ys, vs, h => ⟨[], vs, rfl, trivial, h⟩
  | x :: xs, ys, [], h => (h : False).elim
  | x :: xs, ys, v :: vs, h => by
    obtain ⟨v1, v2, h1, h2, h3⟩ := q_Sk.split (xs := xs) h.2
    exact ⟨v :: v1, v2, by rw [h1]; rfl, ⟨h.1, h2⟩, h3⟩
theorem q_Sk.append {ρ : Nat → Int32} {sb : Nat × va_W} {ws : va_W} : ∀ {xs ys : List qV} {v1 v2 : List Value}, q_Sk ρ sb ws xs v1 → q_Sk ρ sb ws ys v2 → q_Sk ρ sb ws (xs ++ ys) (v1 ++ v2)
  | [], ys, [], v2, _, h => h
  | x :: xs, ys, v :: v1, v2, h1, h2 => ⟨h1.1, q_Sk.append h1.2 h2⟩
  | [], _, _ :: _, _, h, _ => (h : False).elim
  | _ :: _, _, [], _, h, _ => (h : False).elim
theorem q_Sk.rev {ρ : Nat → Int32} {sb : Nat × va_W} {ws : va_W} : ∀ {xs : List qV} {vs : List Value}, q_Sk ρ sb ws xs vs → q_Sk ρ sb ws xs.reverse vs.reverse
  | [], [], _ => trivial
  | x :: xs, v :: vs, h => by
    rw [List.reverse_cons, List.reverse_cons]
    exact q_Sk.append (q_Sk.rev h.2) ⟨h.1, trivial⟩
  | [], _ :: _, h => (h : False).elim
  | _ :: _, [], h => (h : False).elim
theorem q_Sk.len {ρ : Nat → Int32} {sb : Nat × va_W} {ws : va_W} : ∀ {xs : List qV} {vs : List Value}, q_Sk ρ sb ws xs vs → xs.length = vs.length
  | [], [], _ => rfl
  | x :: xs, v :: vs, h => by rw [List.length_cons, List.length_cons, q_Sk.len h.2]
  | [], _ :: _, h => (h : False).elim
  | _ :: _, [], h => (h : False).elim
theorem q_args_ok {ρ : Nat → Int32} {sb : Nat × va_W} {ws : va_W} : ∀ (i : Nat) {xs : List qV} {vs : List Value}, q_Sk ρ sb ws xs vs → q_Ls ρ sb ws (q_args i xs) (lv_args i vs)
  | _, [], [], _ => trivial
  | i, x :: xs, v :: vs, h => by
    refine ⟨rfl, h.1, ?_⟩
    have e : (bif Nat.beq (q_cat x) 2 then i + 2 else i + 1) = (if v.category = 2 then i + 2 else i + 1) := by
      rw [q_beq, h.1.cat]
      by_cases hc : q_cat x = 2 <;> simp [hc]
    show q_Ls ρ sb ws (q_args (bif Nat.beq (q_cat x) 2 then i + 2 else i + 1) xs) (lv_args (if v.category = 2 then i + 2 else i + 1) vs)
    rw [e]
    exact q_args_ok _ h.2
  | _, [], _ :: _, h => (h : False).elim
  | _, _ :: _, [], h => (h : False).elim
theorem q_sl_len : ∀ (vs : List Value), (lg_sl vs).length = (vs.map fun v => v.category).sum
  | [] => rfl
  | v :: vs => by
    have h := q_sl_len vs
    show (List.flatMap _ (v :: vs)).length = _
    rw [List.flatMap_cons, List.length_append, List.map_cons, List.sum_cons]
    have h2 : (List.flatMap (fun v => if v.category = 2 then [Slot.val v, .second] else [.val v]) vs).length = (vs.map fun v => v.category).sum := h
    rw [h2]
    cases v <;> rfl
end
section
-- 12.snd: what is said of runs holds of the machine
theorem q_RV.sb {ρ : Nat → Int32} {sb sb' : Nat × va_W} {ws : va_W} {x : qV} {v : Value} (h : q_RV ρ sb ws x v) (e : sb.1 = sb'.1) : q_RV ρ sb' ws x v := by
  obtain ⟨t, n⟩ := x
  rcases t with _ | _ | _ | _ | _ | _ | _ | _ | _ | _ | _ | t
  case succ.succ.succ.succ.succ.succ.succ.succ.succ.zero =>
    show v = .ref sb'.1
    rw [← e]
    exact h
  all_goals exact h
theorem q_Sk.sb {ρ : Nat → Int32} {sb sb' : Nat × va_W} {ws : va_W} (e : sb.1 = sb'.1) : ∀ {xs : List qV} {vs : List Value}, q_Sk ρ sb ws xs vs → q_Sk ρ sb' ws xs vs
  | [], [], _ => trivial
  | _ :: _, _ :: _, h => ⟨h.1.sb e, q_Sk.sb e h.2⟩
  | [], _ :: _, h => (h : False).elim
  | _ :: _, [], h => (h : False).elim
theorem q_ins_23 {e : qN} (h : e.1 = 23) : q_ins e = (q_ins23 (q_v e) (q_a e), 3) := by
  obtain ⟨op, r⟩ := e
  have h : op = 23 := h
  subst h
  rfl
theorem q_ins_24 {e : qN} (h : e.1 = 24) : q_ins e = (q_ins24 (q_v e), 1) := by
  obtain ⟨op, r⟩ := e
  have h : op = 24 := h
  subst h
  rfl
section
variable {p : Program} {l : Launch} {e0 : Env} {R : Room} {s : State} {m : MethodId} {args : Array Value} {below : List Frame} {meth : Method} {c : Code} {Q : State → Prop}
variable {D : va_G} {A : Nat → Prop} {ρ : Nat → Int32} {sb : Nat × va_W} {scr : Bool} {L : Nat} {own : String} {bytes : ByteArray} {maxL : Nat} {init : Bool}
variable {e : qN} {env : qE} {h : qH} {k sl : Nat} {lv : qL} {stk : List qV} {nx : List qF}
variable {H : Heap} {locs : List Loc} {pc : Nat} {ls : Array Slot} {ws : va_W} {tys : List (ClassId × FieldType)} {tab : Nat → qM} {M : qM} {d : Nat}
theorem q_callW {b cells slots mc' ms' : Nat} {st0 rest : List Value} {P : qO → Prop} {a : Array Value} (hr : va_Run p l e0 R s m args below meth c H locs cells slots mc' ms' (F0 m pc ls st0) rest (q_Q ρ b D ws H.size P a) (va_A ws H.size)) (hS : va_S A s.heap H locs) (hAf : ∀ q, va_A ws H.size q → A q)
    (kk : ∀ (o : qO) (v : Option Value) (ws' : va_W) (tys' : List (ClassId × FieldType)) (H1 : Heap) (locs1 : List Loc), P o → q_res ρ (b, ws) ws' o.2.2 v → q_En ρ o.1 → q_Hp ρ (b, ws) o.2.1 ws' tys' → va_P D vwCl ws' H1 → va_K D vwCl tys' s → va_D A ws' → va_S A s.heap H1 locs1 →
      W p l e0 R s m args below meth c H1 locs1 (cells + mc') (slots + ms') Q (F0 m (pc + 3) ls (v.toList ++ rest))) : W p l e0 R s m args below meth c H locs cells slots Q (F0 m pc ls st0) := by
  intro T hT X
  obtain ⟨v, st₀, t, T', L, h0, X', hL, e1, e2, ⟨⟨o, v', ws', tys', hv, hp, hres, hE, hH, hP, hK, hD⟩, hz, hk⟩, st⟩ := hr T hT X
  cases hv
  rw [h0] at hz hk
  have hvm : s.vm.Alike t.vm := by rw [← e2]; exact X'.warmed.alike
  obtain ⟨t2, a1, b1⟩ := kk o v ws' tys' T'.heap (locs ++ L) hp hres hE hH (by rw [e1]; exact hP) (va_K.moved hvm.symm hK) (hD.weaken fun k q hq h => hAf _ h)
    ⟨Nat.le_trans hS.1 (by rw [e1]; exact hz), fun q h1 h2 => by rw [e1, hk q (Nat.lt_of_lt_of_le h1 hS.1) (fun z => h2 (hAf q z))]; exact hS.2.1 q h1 h2, fun q hq => by
      rcases List.mem_append.mp hq with h | h
      · exact hS.2.2 q h
      · exact hAf _ (hL q h)⟩ T' rfl X'
  exact ⟨t2, st t2 a1, b1⟩
theorem q_call_ok (C : q_Cx p R s m args meth c A ρ sb (q_mc M) (q_ms M) scr L own bytes maxL init) (hi : q_iOk tab own init bytes e) (hop : e.1 = 23) (hy : q_yOk (tab (q_w e))) (hroom : d + 2 ≤ R.frames ∧ 100 * (d + 3) ≤ R.locals) {av rest : List qV} {P : qO → Prop} (hsnd : q_Snd l tab d (q_w e) env h av P)
    (hlen : av.length = (if q_mK (tab (q_w e)) = 0 then q_mA (tab (q_w e)) else q_mA (tab (q_w e)) + 1)) (hrcv : q_rcv (q_mK (tab (q_w e))) (q_mC (tab (q_w e))) h av = true) (h8 : (rest.map q_cat).sum ≤ 8) (hc1 : k + q_mc (tab (q_w e)) ≤ q_mc M) (hc2 : sl + q_ms (tab (q_w e)) ≤ q_ms M)
    (hn : ∀ o, P o → q_WW p l e0 R s m args below meth c Q D A ρ sb maxL (o.1, o.2.1, k + q_mc (tab (q_w e)), sl + q_ms (tab (q_w e)), q_pc e + 3, lv, o.2.2.toList ++ rest)) : q_WW p l e0 R s m args below meth c Q D A ρ sb maxL (env, h, k, sl, q_pc e, lv, av.reverse ++ rest) := by
  obtain ⟨hx, hb, hml, hown, hts, hsp, hA, hin, hscr, hmc, hms, hR1, hR2⟩ := C
  intro ws tys H locs ls st ⟨hE, hH, hP, hD, hK, hS, hL, hT⟩
  have hH : q_Hp ρ sb h ws tys := hH
  obtain ⟨vr, restc, rfl, hvr, hrest⟩ := q_Sk.split hT
  have hvals : q_Sk ρ sb ws av vr.reverse := by
    have := hvr.rev
    rwa [List.reverse_reverse] at this
  obtain ⟨vals, rfl⟩ : ∃ vals : List Value, vr = vals.reverse := ⟨vr.reverse, (List.reverse_reverse vr).symm⟩
  rw [List.reverse_reverse] at hvals
  clear hvr hT
  obtain ⟨hdec, -, hcl⟩ := hi
  obtain ⟨hv, hlink⟩ := hcl hop
  obtain ⟨cl, hl, hLs⟩ := hL
  generalize hM' : tab (q_w e) = M' at *
  have hHc : q_Hp ρ (sb.1, ws) h ws tys := ⟨hH.1, hH.2.1, hH.2.2.1, q_ext.rf⟩
  have hM := hsnd ρ sb.1 D ws tys H.size vals hE hHc (hvals.sb (sb := sb) (sb' := (sb.1, ws)) rfl)
  rw [hM'] at hM
  have hFc : ∀ q, va_A ws H.size q → A q := fun q hq => by
    rcases hq with ⟨j, e, hj⟩ | hq
    · exact hD.2 j (q, e) hj
    · exact hA q (Nat.le_trans hS.1 hq)
  have hbl : FrameBlind (va_Pc vals (q_B D ws tys H.size)) := fun a U g mk ⟨q1, q2, q3, q4, q5, q6⟩ => ⟨q1, q2, q3, va_K.moved (u := U) (U := U.calling g mk a) (Vm.Alike.refl U.vm) q4, q5, q_XW.same (s := U) rfl q6⟩
  have hpr : ∀ U : State, U.heap = H → s.WarmedH U.vm → va_Pc vals (q_B D ws tys H.size) vals.toArray U := fun U hU hW => ⟨rfl, by rw [hU], by rw [hU]; exact hP, va_K.moved hW.alike hK, hD.weaken (fun _ _ _ _ => trivial), q_XW.warm hW hsp⟩
  have kk : ∀ (o : qO) (v : Option Value) (ws' : va_W) (tys' : List (ClassId × FieldType)) (H1 : Heap) (locs1 : List Loc), P o → q_res ρ (sb.1, ws) ws' o.2.2 v → q_En ρ o.1 → q_Hp ρ (sb.1, ws) o.2.1 ws' tys' → va_P D vwCl ws' H1 → va_K D vwCl tys' s → va_D A ws' → va_S A s.heap H1 locs1 →
      W p l e0 R s m args below meth c H1 locs1 (k + q_mc M') (sl + q_ms M') Q (F0 m (q_pc e + 3) ls (v.toList ++ restc)) := fun o v ws' tys' H1 locs1 hp hres hE1 hH1 hP1 hK1 hD1 hS1 => by
    have hex : q_ext ws ws' := hH1.2.2.2
    refine hn o hp ws' tys' H1 locs1 ls (v.toList ++ restc) ⟨hE1, ⟨hH1.1, hH1.2.1, hH1.2.2.1, hH.2.2.2.tr hex⟩, hP1, hD1, hK1, hS1, ⟨cl, hl, hLs.mono hex⟩, ?_⟩
    obtain ⟨oe, oh, r⟩ := o
    cases r with
    | none => cases v with
      | none => exact hrest.mono hex
      | some v => exact (hres : False).elim
    | some r => cases v with
      | none => exact (hres : False).elim
      | some v => exact ⟨hres, hrest.mono hex⟩
  obtain ⟨y1, y2, y3, y4, y5, y6, y7, yS, yI, yV, yK⟩ := hy
  have hlen2 := hvals.len
  have hrm : (q_rm d M').frames + 1 ≤ R.frames ∧ 8 + (q_mL M' + 11) + (q_rm d M').locals ≤ R.locals := ⟨hroom.1, by show 8 + (q_mL M' + 11) + 100 * (d + 2) ≤ R.locals; omega⟩
  have h8c : (restc.map fun v => v.category).sum ≤ 8 := by rw [hrest.cats]; exact h8
  have hf : k + q_mc M' ≤ R.cells ∧ sl + q_ms M' ≤ R.slots := ⟨Nat.le_trans hc1 hmc, Nat.le_trans hc2 hms⟩
  have hins := q_ins_23 hop
  rw [hins, hv] at hdec
  obtain hk0 | hk1 | hk2 : q_mK M' = 0 ∨ q_mK M' = 1 ∨ q_mK M' = 2 := by omega
  · rw [hk0] at hdec
    rw [if_pos hk0, hlen2] at hlen
    rcases hlink with hlk | ⟨host, hlk⟩
    · exact q_callW (va_runS (As := vals) (rest := restc) ⟨hx, hb, hml, hown, hts⟩ hM ⟨callB_of (q_mA M') hts (q_goodM y1) rfl rfl rfl (hts _ y2) (hts _ hlk) ⟨y3, y4, y5⟩ hrm, hts _ (yS hk0)⟩ ⟨hbl, hpr⟩ rfl hlen hl.1 rfl (lv_room h8c) hdec hf) hS hFc kk
    · exact q_callW (va_runSN (As := vals) (rest := restc) ⟨hx, hb, hml, hown, hts⟩ hM ⟨va_cnB (q_mA M') hts (q_goodM y1) rfl rfl rfl (hsp _ hlk) (hts _ y2) ⟨y3, y4, y5⟩ hrm, hts _ (yS hk0), trivial⟩ ⟨hbl, hpr⟩ rfl hlen hl.1 rfl (lv_room h8c) hdec hf) hS hFc kk
  · rw [hk1] at hdec hrcv
    rw [if_neg (by omega), hlen2] at hlen
    obtain ⟨z1, z2, z3⟩ := yI hk1
    cases av with
    | nil => cases hrcv
    | cons x av =>
      have hrcv : (Nat.beq x.1 6 && Nat.blt x.2 h.2) = true := hrcv
      rw [Bool.and_eq_true] at hrcv
      obtain ⟨xv, As, rfl, hxv, hAs⟩ := hvals.cons
      obtain ⟨a0, ex, hex0, rfl⟩ := hxv.c6 hrcv.1
      have hlen : As.length = q_mA M' := by rw [List.length_cons] at hlen; omega
      have hstk : (Value.ref a0 :: As).reverse ++ restc = As.reverse ++ .ref a0 :: restc := by rw [List.reverse_cons, List.append_assoc]; rfl
      have hw : q_words M' = Cond.code (q_mY M') (q_mB M') (q_mL M') none :: qWS := by
        show Cond.code _ _ _ (q_mT M') :: qWS = _
        rw [z3]
      rcases hlink with hlk | ⟨host, hlk⟩
      · exact q_callW (va_runI (b := a0) (As := As) (rest := restc) ⟨hx, hb, hml, hown, hts⟩ hM ⟨callB_of (q_mA M') hts (q_goodM y1) hw rfl rfl (hts _ y2) (hts _ hlk) ⟨y3, y4, y5⟩ hrm, z1, hts _ z2⟩ ⟨hbl, hpr⟩ rfl hlen hl.1 hstk (lv_room h8c) hdec hf) hS hFc kk
      · exact q_callW (va_runIN (b := a0) (As := As) (rest := restc) ⟨hx, hb, hml, hown, hts⟩ hM ⟨va_cnB (q_mA M') hts (q_goodM y1) hw rfl rfl (hsp _ hlk) (hts _ y2) ⟨y3, y4, y5⟩ hrm, z1, hts _ z2⟩ ⟨hbl, hpr⟩ rfl hlen hl.1 hstk (lv_room h8c) hdec hf) hS hFc kk
  · rw [hk2] at hdec hrcv
    rw [if_neg (by omega), hlen2] at hlen
    obtain ⟨z1, z2, r, hr, hrc⟩ := yV hk2
    cases av with
    | nil => cases hrcv
    | cons x av =>
      have hrcv : (Nat.beq x.1 6 && Nat.blt x.2 h.2 && Nat.beq (h.1.get x.2).1 (q_mC M')) = true := hrcv
      simp only [Bool.and_eq_true] at hrcv
      obtain ⟨xv, As, rfl, hxv, hAs⟩ := hvals.cons
      obtain ⟨a0, ex, hex0, rfl⟩ := hxv.c6 hrcv.1.1
      have hkd : (h.1.get x.2).1 = q_mC M' := Nat.eq_of_beq_eq_true hrcv.2
      have hv100 := q_vw hr
      obtain ⟨fs, rfl, -, -⟩ := (hH.2.2.1 _ _ _ hex0).obj (by rw [hkd]; exact hv100)
      rw [hkd] at hex0
      have hrv := va_recv hK hP hr hex0
      rw [hrc] at hrv
      have hlen : As.length = q_mA M' := by rw [List.length_cons] at hlen; omega
      have hstk : (Value.ref a0 :: As).reverse ++ restc = As.reverse ++ .ref a0 :: restc := by rw [List.reverse_cons, List.append_assoc]; rfl
      rcases hlink with hlk | ⟨host, hlk⟩
      · exact q_callW (va_runV (b := a0) (As := As) (rest := restc) (C := (q_mY M').cls) ⟨hx, hb, hml, hown, hts⟩ hM ⟨callB_of (q_mA M') hts (q_goodM y1) rfl rfl rfl (hts _ y2) (hts _ hlk) ⟨y3, y4, y5⟩ hrm, hts _ z1, hts _ z2⟩ ⟨hbl, hrv, hpr⟩ rfl hlen hl.1 hstk (lv_room h8c) hdec hf) hS hFc kk
      · exact q_callW (va_runVN (b := a0) (As := As) (rest := restc) (C := (q_mY M').cls) ⟨hx, hb, hml, hown, hts⟩ hM ⟨va_cnB (q_mA M') hts (q_goodM y1) rfl rfl rfl (hsp _ hlk) (hts _ y2) ⟨y3, y4, y5⟩ hrm, hts _ z1, hts _ z2⟩ ⟨hbl, hrv, hpr⟩ rfl hlen hl.1 hstk (lv_room h8c) hdec hf) hS hFc kk
theorem q_GF_ok (hT : q_tabOk tab) (hM : q_mOk tab init M) (C : q_Cx p R s m args meth c A ρ sb (q_mc M) (q_ms M) scr L (q_mY M).cls (q_mB M) (q_mL M) init) (hroom : d + 2 ≤ R.frames ∧ 100 * (d + 3) ≤ R.locals) {call : q_call} (hcall : ∀ id env h av P, call id env h av P → q_Snd l tab d id env h av P) {P : qO → Prop}
    (hret : ∀ (env : qE) (h : qH) (k sl pc : Nat) (lv : qL) (stk : List qV) (r : Option qV), q_pc ((q_mI M).get pc) = pc → ((q_mI M).get pc).1 = 24 → q_rvo (q_mT M) (q_v ((q_mI M).get pc)) stk = some r → k ≤ q_mc M → sl ≤ q_ms M → P (env, h, r) → q_WW p l e0 R s m args below meth c Q D A ρ sb (q_mL M) (env, h, k, sl, pc, lv, stk)) :
    ∀ (n : Nat) (fr : qF), q_GF tab call M scr L n fr P → q_WW p l e0 R s m args below meth c Q D A ρ sb (q_mL M) fr := by
  intro n
  induction n with
  | zero => intro fr h; exact (h : False).elim
  | succ n ih =>
    intro fr h
    obtain ⟨env, hh, k, sl, pc, lv, stk⟩ := fr
    rcases h with ⟨hpc, h1 | h2 | h3⟩ | ⟨I, hI, hG⟩
    · obtain ⟨hop, r, hr, c1, c2, hP⟩ := h1
      exact hret env hh k sl pc lv stk r hpc hop hr c1 c2 hP
    · obtain ⟨hop, av, rest, hstk, hlen, hrcv, h8, c1, c2, hc⟩ := h2
      have hstk : stk = av.reverse ++ rest := hstk
      subst hstk
      have hpc : q_pc ((q_mI M).get pc) = pc := hpc
      have := q_call_ok (lv := lv) C (hM pc) hop (hT.2 _).2 hroom (hcall _ _ _ _ _ hc) hlen hrcv h8 c1 c2 (fun o ho => by
        rw [hpc]
        exact ih _ ho)
      rw [hpc] at this
      exact this
    · obtain ⟨nx, hs, hn⟩ := h3
      have hpc : q_pc ((q_mI M).get pc) = pc := hpc
      have := q_step_ok (lv := lv) C (hM pc).2.1 (hM pc).1 hT.1 hs (fun f hf => ih f (hn f hf))
      rw [hpc] at this
      exact this
    · intro ws tys H locs ls st ⟨hE, hH, hP, hD, hK, hS, ⟨cl, hl, hLs⟩, hSt⟩
      obtain ⟨f, hf, e1, e2, e3, hE2, hH2, hL2, hS2⟩ := hI ρ sb ws tys cl st ⟨hE, hH, hLs, hSt⟩
      have := ih f (hG f hf) ws tys H locs ls st ⟨hE2, hH2, hP, hD, hK, hS, ⟨cl, hl, hL2⟩, hS2⟩
      rw [e1, e2, e3] at this
      exact this
end
theorem q_GM_ok {tab : Nat → qM} (hT : q_tabOk tab) (l : Launch) : ∀ (d id : Nat) (env : qE) (h : qH) (av : List qV) (P : qO → Prop), q_GM tab d id env h av P → q_Snd l tab d id env h av P := by
  intro d
  induction d with
  | zero => intro id env h av P hG; exact (hG : False).elim
  | succ d ih =>
    intro id env h av P hG
    obtain ⟨hsum, n, hG⟩ := hG
    intro ρ b D ws tys sz vals hE hH hSk
    obtain ⟨hMo, y1, y2, y3, y4, y5, y6, y7, yS, yI, yV, yK⟩ := hT.2 id
    generalize hM : tab id = M at *
    refine Met.ofW (cc := q_mB M) (maxL := q_mL M) (ret := q_mT M) y7 rfl ?_
    intro p e s m args below meth c s₁ B hml hv
    obtain ⟨rfl, hsz, hP, hK, hD0, hXW⟩ := hv
    have hx := B.exec
    have hb := B.bytes
    have hr := B.returns
    have hlocks := B.notSynchronized
    subst hsz
    have hD := hD0.self (sz := s.heap.size)
    have C : q_Cx p (headSpec (q_words M) (q_rm (d + 1) M)).room s m vals.toArray meth c (va_A ws s.heap.size) ρ (b, ws) (q_mc M) (q_ms M) false 0 (q_mY M).cls (q_mB M) (q_mL M) (Nat.beq (q_mK M) 1) :=
      ⟨hx, hb, hml, findClass_of_methodNamed B.named, fun w hw => atoms_spec (ws := q_words M) B.pre w (List.mem_cons_of_mem _ hw), hXW, fun q h => Or.inr h, fun hi => (name_of_methodNamed B.named B.method).1.trans (yI (Nat.eq_of_beq_eq_true hi)).1, (fun h => Bool.noConfusion h), Nat.le_refl _, Nat.le_refl _, by show 1 ≤ d + 1 + 1; omega, by show 100 ≤ 100 * (d + 1 + 2); omega⟩
    have hl := lv_entry vals (n := q_mL M) (by rw [q_sl_len, hSk.cats]; exact hsum)
    have hgo := q_GF_ok (p := p) (l := l) (e0 := e) (R := (headSpec (q_words M) (q_rm (d + 1) M)).room) (below := below) (Q := MQ below (q_Q ρ b D ws s.heap.size P) vals.toArray s (q_mc M) (q_ms M) (va_A ws s.heap.size)) (D := D) (d := d) hT hMo C ⟨by show d + 2 ≤ d + 1 + 1; omega, by show 100 * (d + 3) ≤ 100 * (d + 1 + 2); omega⟩ ih (P := P) ?_ n _ hG
    · rw [lg_entry_eq]
      exact hgo ws tys s.heap [] _ [] ⟨hE, hH, hP, hD, hK, va_S.rf, ⟨_, hl, q_args_ok 0 hSk⟩, trivial⟩
    · intro env h k sl pc lv stk r hpc hop hrv hk hsl hPo ws' tys' H locs ls st ⟨hE', hH', hP', hD', hK', hS', hL', hT'⟩
      have hdec := (hMo pc).1
      rw [hpc] at hdec
      have hins := q_ins_24 hop
      rw [hins] at hdec
      refine W.widen hk hsl ?_
      have post : ∀ v : Option Value, q_res ρ (b, ws) ws' r v → ∀ t : State, t.heap = H → s.WarmedH t.vm → q_Q ρ b D ws s.heap.size P vals.toArray s (.returned v) t := fun v hres t ht hW =>
        ⟨⟨(env, h, r), v, ws', tys', rfl, hPo, hres, hE', hH', by rw [ht]; exact hP', va_K.moved hW.alike hK', hD'⟩, hS'.F ht⟩
      generalize q_v ((q_mI M).get pc) = v at hrv hdec
      generalize hTT : q_mT M = T at hrv
      have hr : meth.sig.returnType = T := hr.trans hTT
      rcases stk with _ | ⟨x, _ | ⟨x2, stk⟩⟩
      · have hst := hT'.nil
        subst hst
        cases T with
        | none =>
          obtain ⟨h1, h2⟩ := q_bt hrv
          have h1 := Nat.eq_of_beq_eq_true h1
          subst h1
          cases h2
          exact W.vret hx hb hr (post none trivial) hS'.2.2 hdec
        | some T => cases hrv
      · obtain ⟨xv, st, rfl, hxv, hnil⟩ := hT'.cons
        have hst := hnil.nil
        subst hst
        cases T with
        | none => cases hrv
        | some T =>
          cases T
          case int =>
            obtain ⟨h1, h2⟩ := q_bt hrv
            rw [Bool.and_eq_true] at h1
            have h3 := Nat.eq_of_beq_eq_true h1.1
            subst h3
            cases h2
            obtain ⟨xc, rfl⟩ := hxv.int (Nat.eq_of_beq_eq_true h1.2)
            exact W.iret hx hb hr (post (some (.int xc)) hxv) hS'.2.2 hdec
          case boolean =>
            obtain ⟨h1, h2⟩ := q_bt hrv
            rw [Bool.and_eq_true] at h1
            have h3 := Nat.eq_of_beq_eq_true h1.1
            subst h3
            cases h2
            obtain ⟨g1, g2⟩ := q_fit_ok (code := 1) (ty := .boolean) rfl h1.2 hxv
            rw [Bool.and_eq_true] at h1
            have ex := hxv.c0 h1.2.1
            subst ex
            exact W.zret hx hb hr g1 (post (some _) hxv) hS'.2.2 hdec
          case long =>
            obtain ⟨h1, h2⟩ := q_bt hrv
            rw [Bool.and_eq_true] at h1
            have h3 := Nat.eq_of_beq_eq_true h1.1
            subst h3
            cases h2
            obtain ⟨xc, rfl⟩ := hxv.long (Nat.eq_of_beq_eq_true h1.2)
            exact W.lret hx hb hr (post (some (.long xc)) hxv) hS'.2.2 hdec
          case object nm =>
            obtain ⟨h1, h2⟩ := q_bt hrv
            rw [Bool.and_eq_true] at h1
            have h3 := Nat.eq_of_beq_eq_true h1.1
            subst h3
            cases h2
            refine W.aret hx hb hr (Or.inl ⟨nm, rfl⟩) ?_ (post (some xv) hxv) hS'.2.2 hdec
            rcases hxv.rf (Nat.eq_of_beq_eq_true h1.2) with ⟨-, rfl⟩ | ⟨-, a, rfl⟩
            · exact Or.inl rfl
            · exact Or.inr ⟨a, rfl⟩
          case array ty =>
            obtain ⟨h1, h2⟩ := q_bt hrv
            rw [Bool.and_eq_true] at h1
            have h3 := Nat.eq_of_beq_eq_true h1.1
            subst h3
            cases h2
            refine W.aret hx hb hr (Or.inr ⟨ty, rfl⟩) ?_ (post (some xv) hxv) hS'.2.2 hdec
            rcases hxv.rf (Nat.eq_of_beq_eq_true h1.2) with ⟨-, rfl⟩ | ⟨-, a, rfl⟩
            · exact Or.inl rfl
            · exact Or.inr ⟨a, rfl⟩
          all_goals cases hrv
      · cases hrv
end
section
-- 13.chk: what must hold of the tables, as a program decides it
def q_chunk (k : Nat) : List Cond := match k with
  | 0 => k2_sels lw_privs
  | 1 => tables_1_1
  | 2 => tables_1_2
  | 3 => tables_1_3
  | 4 => tables_1_4
  | 5 => tables_1_5
  | 6 => tables_1_6
  | 7 => tables_1_7
  | 8 => tables_1_8
  | 9 => tables_1_9
  | _ => []
def q_wd (n : Nat) : Option Cond := (q_chunk (n / 1000))[n % 1000]?
theorem q_chunk_mem {k : Nat} {w : Cond} (h : w ∈ q_chunk k) : w ∈ lw_tbl := by
  rcases k with _ | _ | _ | _ | _ | _ | _ | _ | _ | _ | k
  · exact List.mem_append_left _ h
  case succ.succ.succ.succ.succ.succ.succ.succ.succ.succ => exact absurd h List.not_mem_nil
  all_goals
    refine List.mem_append_right _ ?_
    unfold tables_1
    simp only [List.mem_append]
  · exact Or.inl h
  · exact Or.inr (Or.inl h)
  · exact Or.inr (Or.inr (Or.inl h))
  · exact Or.inr (Or.inr (Or.inr (Or.inl h)))
  · exact Or.inr (Or.inr (Or.inr (Or.inr (Or.inl h))))
  · exact Or.inr (Or.inr (Or.inr (Or.inr (Or.inr (Or.inl h)))))
  · exact Or.inr (Or.inr (Or.inr (Or.inr (Or.inr (Or.inr (Or.inl h))))))
  · exact Or.inr (Or.inr (Or.inr (Or.inr (Or.inr (Or.inr (Or.inr (Or.inl h)))))))
  · exact Or.inr (Or.inr (Or.inr (Or.inr (Or.inr (Or.inr (Or.inr (Or.inr h)))))))
theorem q_wd_mem {n : Nat} {w : Cond} (h : q_wd n = some w) : w ∈ lw_tbl := q_chunk_mem (List.mem_of_getElem? h)
def q_has (n : Nat) (w : Cond) : Bool := goodWord w && (match q_wd n with
  | some w' => decide (w' = w)
  | none => false)
theorem q_has_mem {n : Nat} {w : Cond} (h : q_has n w = true) : w ∈ qWS := by
  unfold q_has at h
  rw [Bool.and_eq_true] at h
  refine List.mem_filter.mpr ⟨?_, h.1⟩
  have h2 := h.2
  cases hw : q_wd n with
  | none => rw [hw] at h2; cases h2
  | some w' =>
    rw [hw] at h2
    have h3 : w' = w := of_decide_eq_true h2
    rw [← h3]
    exact q_wd_mem hw
def q_hasS (n : Nat) (w : Cond) : Bool := q_isSp w && (match q_wd n with
  | some w' => decide (w' = w)
  | none => false)
theorem q_hasS_mem {n : Nat} {w : Cond} (h : q_hasS n w = true) : w ∈ qSP := by
  unfold q_hasS at h
  rw [Bool.and_eq_true] at h
  refine List.mem_filter.mpr ⟨?_, h.1⟩
  have h2 := h.2
  cases hw : q_wd n with
  | none => rw [hw] at h2; cases h2
  | some w' =>
    rw [hw] at h2
    have h3 : w' = w := of_decide_eq_true h2
    rw [← h3]
    exact q_wd_mem hw
def q_tyB (code : Nat) (ty : FieldType) : Bool := match ty with
  | .int => Nat.beq code 0
  | .boolean => Nat.beq code 1
  | .long => Nat.beq code 2
  | .object _ => Nat.beq code 3
  | .array _ => Nat.beq code 3
  | _ => false
theorem q_tyB_ok {code : Nat} {ty : FieldType} (h : q_tyB code ty = true) : q_tyOk code ty := by
  cases ty
  case int => rw [Nat.eq_of_beq_eq_true h]; exact rfl
  case boolean => rw [Nat.eq_of_beq_eq_true h]; exact rfl
  case long => rw [Nat.eq_of_beq_eq_true h]; exact rfl
  case object n => rw [Nat.eq_of_beq_eq_true h]; exact Or.inl ⟨n, rfl⟩
  case array t => rw [Nat.eq_of_beq_eq_true h]; exact Or.inr ⟨t, rfl⟩
  all_goals cases h
def q_fdB (d : String) (code : Nat) : Bool := match parseFieldDescriptor d with
  | some ty => q_tyB code ty
  | none => false
theorem q_fdB_ok {d : String} {code : Nat} (h : q_fdB d code = true) : ∃ ty, parseFieldDescriptor d = some ty ∧ q_tyOk code ty := by
  unfold q_fdB at h
  cases hp : parseFieldDescriptor d with
  | none => rw [hp] at h; cases h
  | some ty => rw [hp] at h; exact ⟨ty, rfl, q_tyB_ok h⟩
def q_strB (own : String) (a n : Nat) : Bool := match q_wd n with
  | some (.stringRef o i _) => decide (o = own) && Nat.beq i a
  | _ => false
theorem q_strB_ok {own : String} {a n : Nat} (h : q_strB own a n = true) : ∃ tx, Cond.stringRef own a tx ∈ qSP := by
  unfold q_strB at h
  split at h
  · rename_i o i tx hw
    rw [Bool.and_eq_true] at h
    have h1 : o = own := of_decide_eq_true h.1
    have h2 := Nat.eq_of_beq_eq_true h.2
    subst h1; subst h2
    exact ⟨tx, List.mem_filter.mpr ⟨q_wd_mem hw, rfl⟩⟩
  · cases h
def q_clB (v : Nat) (f : vw_C → Bool) : Bool := match vwCl[v]? with
  | some r => f r
  | none => false
theorem q_clB_ok {v : Nat} {f : vw_C → Bool} (h : q_clB v f = true) : ∃ r, vwCl[v]? = some r ∧ f r = true := by
  unfold q_clB at h
  cases hr : vwCl[v]? with
  | none => rw [hr] at h; cases h
  | some r => rw [hr] at h; exact ⟨r, rfl, h⟩
def q_okB (own : String) (init : Bool) (e : qN) : Bool := match e.1 with
  | 0 => (match q_v e with
    | 4 => q_has (q_w e) (.constant own (q_a e) (qI (q_b e)))
    | 5 => q_has (q_w e) (.constant own (q_a e) (qI (q_b e)))
    | 6 => q_has (q_w e) (.constantLong own (q_a e) (qJ (q_b e)))
    | 7 => q_strB own (q_a e) (q_w e)
    | _ => true)
  | 1 => !(Nat.beq (q_v e) 0 || Nat.beq (q_v e) 2 || Nat.beq (q_v e) 4) || Nat.blt (q_a e) 4
  | 2 => !(Nat.beq (q_v e) 0 || Nat.beq (q_v e) 2 || Nat.beq (q_v e) 4) || Nat.blt (q_a e) 4
  | 14 => q_clB (q_v e) fun r => Nat.blt (q_b e) r.2.2 && q_has (q_w e) (.fieldLink own (q_a e) (r.2.1 (q_b e)).1 (r.2.1 (q_b e)).2.1 (r.2.1 (q_b e)).2.2.1)
  | 15 => q_clB (q_v e) fun r => Nat.blt (q_b e) r.2.2 && (q_has (q_w e) (.fieldLink own (q_a e) (r.2.1 (q_b e)).1 (r.2.1 (q_b e)).2.1 (r.2.1 (q_b e)).2.2.1) && (q_fdB (r.2.1 (q_b e)).2.2.1 ((q_t e).getD 0 9) && (!(r.2.1 (q_b e)).2.2.2 || (init && decide ((r.2.1 (q_b e)).1 = own)))))
  | 16 => q_has (q_w e) (.arrayClass (newarray.typeOf (q_aty (q_v e)))) && Nat.ble (q_v e) 3
  | 17 => q_clB (q_v e) fun r => Nat.blt 0 r.2.2 && (Nat.blt (q_v e) 100 && (q_has (q_w e) (.classLink own (q_a e) r.1) && q_hasS ((q_t e).getD 0 0) (.arrayOver (.object r.1))))
  | 18 => q_has (q_w e) (.classLink own (q_a e) ("[" ++ (FieldType.array .int).toString)) && (q_hasS ((q_t e).getD 0 0) (.arrayOver (.array .int)) && q_has ((q_t e).getD 1 0) (.arrayClass .int))
  | 22 => q_clB (q_v e) fun r => Nat.blt (q_v e) 100 && (Nat.beq r.2.2 (q_t e).length && (q_has (q_w e) (.classLink own (q_a e) r.1) && (q_has (q_b e / 10000) (.instantiable r.1 r.2.2) && (q_has (q_b e % 10000) (.initialized r.1) && (List.range r.2.2).all fun j => q_fdB (r.2.1 j).2.2.1 ((q_t e).getD j 9)))))
  | 25 => q_has (q_w e) (.methodLink own (q_a e) Lib.objectInit) && (q_has ((q_t e).getD 0 0) (.instanceMethod Lib.objectInit) && q_has ((q_t e).getD 1 0) (.code Lib.objectInit ⟨#[0xb1]⟩ 1 none))
  | 26 => q_has (q_w e) (.methodLink own (q_a e) arraycopyName) && (q_has ((q_t e).getD 0 0) (.native arraycopyName) && (q_has ((q_t e).getD 1 0) (.static arraycopyName) && q_has ((q_t e).getD 2 0) (.initialized "java/lang/System")))
  | _ => true
theorem q_vB_ok {v a : Nat} (h : (!(Nat.beq v 0 || Nat.beq v 2 || Nat.beq v 4) || Nat.blt a 4) = true) : v = 0 ∨ v = 2 ∨ v = 4 → a < 4 := by
  intro hv
  rw [Bool.or_eq_true] at h
  rcases h with h | h
  · rcases hv with rfl | rfl | rfl <;> cases h
  · rw [q_blt] at h
    exact of_decide_eq_true h
theorem q_okB_ok {own : String} {init : Bool} {e : qN} (h : q_okB own init e = true) : q_ok own init e := by
  obtain ⟨op, pc, v, a, b, w, t⟩ := e
  rcases op with _ | _ | _ | _ | _ | _ | _ | _ | _ | _ | _ | _ | _ | _ | _ | _ | _ | _ | _ | _ | _ | _ | _ | _ | _ | _ | _ | op
  · rcases v with _ | _ | _ | _ | _ | _ | _ | _ | v
    · trivial
    · trivial
    · trivial
    · trivial
    · exact q_has_mem h
    · exact q_has_mem h
    · exact q_has_mem h
    · exact q_strB_ok h
    · trivial
  · exact q_vB_ok h
  · exact q_vB_ok h
  · trivial
  · trivial
  · trivial
  · trivial
  · trivial
  · trivial
  · trivial
  · trivial
  · trivial
  · trivial
  · trivial
  · obtain ⟨r, hr, hf⟩ := q_clB_ok h
    rw [Bool.and_eq_true, q_blt] at hf
    exact ⟨r, hr, of_decide_eq_true hf.1, q_has_mem hf.2⟩
  · obtain ⟨r, hr, hf⟩ := q_clB_ok h
    simp only [Bool.and_eq_true, q_blt, decide_eq_true_eq] at hf
    obtain ⟨f1, f2, f3, f4⟩ := hf
    refine ⟨r, hr, f1, q_has_mem f2, q_fdB_ok f3, fun hfin => ?_⟩
    rw [Bool.or_eq_true] at f4
    rcases f4 with f4 | f4
    · have hfin : (r.2.1 b).2.2.2 = true := hfin
      have f4 : (!(r.2.1 b).2.2.2) = true := f4
      rw [hfin] at f4
      cases f4
    · rw [Bool.and_eq_true] at f4
      exact ⟨f4.1, of_decide_eq_true f4.2⟩
  · have h : (q_has w (.arrayClass (newarray.typeOf (q_aty v))) && Nat.ble v 3) = true := h
    rw [Bool.and_eq_true] at h
    exact ⟨q_has_mem h.1, Nat.le_of_ble_eq_true h.2⟩
  · obtain ⟨r, hr, hf⟩ := q_clB_ok h
    simp only [Bool.and_eq_true, q_blt, decide_eq_true_eq] at hf
    obtain ⟨f1, f2, f3, f4⟩ := hf
    exact ⟨r, hr, f1, f2, q_has_mem f3, q_hasS_mem f4⟩
  · have h : (q_has w (.classLink own a ("[" ++ (FieldType.array .int).toString)) && (q_hasS (t.getD 0 0) (.arrayOver (.array .int)) && q_has (t.getD 1 0) (.arrayClass .int))) = true := h
    simp only [Bool.and_eq_true] at h
    exact ⟨q_has_mem h.1, q_hasS_mem h.2.1, q_has_mem h.2.2⟩
  · trivial
  · trivial
  · trivial
  · obtain ⟨r, hr, hf⟩ := q_clB_ok h
    simp only [Bool.and_eq_true, q_blt, decide_eq_true_eq] at hf
    obtain ⟨f1, f2, f3, f4, f5, f6⟩ := hf
    exact ⟨r, hr, f1, Nat.eq_of_beq_eq_true f2, q_has_mem f3, q_has_mem f4, q_has_mem f5, fun j hj => q_fdB_ok (List.all_eq_true.mp f6 j (List.mem_range.mpr hj))⟩
  · trivial
  · trivial
  · have h : (q_has w (.methodLink own a Lib.objectInit) && (q_has (t.getD 0 0) (.instanceMethod Lib.objectInit) && q_has (t.getD 1 0) (.code Lib.objectInit ⟨#[0xb1]⟩ 1 none))) = true := h
    simp only [Bool.and_eq_true] at h
    exact ⟨q_has_mem h.1, q_has_mem h.2.1, q_has_mem h.2.2⟩
  · have h : (q_has w (.methodLink own a arraycopyName) && (q_has (t.getD 0 0) (.native arraycopyName) && (q_has (t.getD 1 0) (.static arraycopyName) && q_has (t.getD 2 0) (.initialized "java/lang/System")))) = true := h
    simp only [Bool.and_eq_true] at h
    exact ⟨q_has_mem h.1, q_has_mem h.2.1, q_has_mem h.2.2.1, q_has_mem h.2.2.2⟩
  · trivial
def q_lkB (own : String) (a n : Nat) (y : MethodName) : Bool := match q_wd n with
  | some (.methodLink o i y') => decide (o = own) && (Nat.beq i a && decide (y' = y))
  | some (.methodLinkNest o i y' _) => decide (o = own) && (Nat.beq i a && decide (y' = y))
  | _ => false
theorem q_lkB_ok {own : String} {a n : Nat} {y : MethodName} (h : q_lkB own a n y = true) : Cond.methodLink own a y ∈ qWS ∨ ∃ host, Cond.methodLinkNest own a y host ∈ qSP := by
  unfold q_lkB at h
  split at h
  · rename_i o i y' hw
    simp only [Bool.and_eq_true] at h
    have h1 : o = own := of_decide_eq_true h.1
    have h2 := Nat.eq_of_beq_eq_true h.2.1
    have h3 : y' = y := of_decide_eq_true h.2.2
    subst h1; subst h2; subst h3
    exact Or.inl (List.mem_filter.mpr ⟨q_wd_mem hw, rfl⟩)
  · rename_i o i y' host hw
    simp only [Bool.and_eq_true] at h
    have h1 : o = own := of_decide_eq_true h.1
    have h2 := Nat.eq_of_beq_eq_true h.2.1
    have h3 : y' = y := of_decide_eq_true h.2.2
    subst h1; subst h2; subst h3
    exact Or.inr ⟨host, List.mem_filter.mpr ⟨q_wd_mem hw, rfl⟩⟩
  · cases h
def q_iB (tab : Nat → qM) (own : String) (init : Bool) (bytes : ByteArray) (e : qN) : Bool := decide (decode bytes (q_pc e) = .ok (q_ins e)) && (q_okB own init e && (!(Nat.beq e.1 23) || (Nat.beq (q_v e) (q_mK (tab (q_w e))) && q_lkB own (q_a e) (q_b e) (q_mY (tab (q_w e))))))
theorem q_iB_ok {tab : Nat → qM} {own : String} {init : Bool} {bytes : ByteArray} {e : qN} (h : q_iB tab own init bytes e = true) : q_iOk tab own init bytes e := by
  unfold q_iB at h
  simp only [Bool.and_eq_true, decide_eq_true_eq] at h
  obtain ⟨h1, h2, h3⟩ := h
  refine ⟨h1, q_okB_ok h2, fun h23 => ?_⟩
  rw [Bool.or_eq_true] at h3
  rcases h3 with h3 | h3
  · rw [h23] at h3
    cases h3
  · rw [Bool.and_eq_true] at h3
    exact ⟨Nat.eq_of_beq_eq_true h3.1, q_lkB_ok h3.2⟩
noncomputable def q_all {α : Type} (f : α → Bool) (t : Lean.RArray α) : Bool := Lean.RArray.rec (motive := fun _ => Bool) (fun a => f a) (fun _ _ _ l r => cond l r false) t
theorem q_all_get {α : Type} {f : α → Bool} {t : Lean.RArray α} (h : q_all f t = true) (n : Nat) : f (t.get n) = true := by
  induction t with
  | leaf a => exact h
  | branch p l r il ir =>
    have h : cond (q_all f l) (q_all f r) false = true := h
    rw [q_get_branch]
    cases hl : q_all f l with
    | false => rw [hl] at h; cases h
    | true =>
      rw [hl] at h
      by_cases hp : p ≤ n
      · rw [if_pos hp]; exact ir h
      · rw [if_neg hp]; exact il hl
noncomputable def q_allP {α : Type} (f : α → Prop) (t : Lean.RArray α) : Prop := Lean.RArray.rec (motive := fun _ => Prop) (fun a => f a) (fun _ _ _ l r => l ∧ r) t
theorem q_allP_get {α : Type} {f : α → Prop} {t : Lean.RArray α} (h : q_allP f t) (n : Nat) : f (t.get n) := by
  induction t with
  | leaf a => exact h
  | branch p l r il ir =>
    have h : q_allP f l ∧ q_allP f r := h
    rw [q_get_branch]
    by_cases hp : p ≤ n
    · rw [if_pos hp]; exact ir h.2
    · rw [if_neg hp]; exact il h.1
def q_yB (M : qM) (is : List Nat) : Bool :=
  q_has (is.getD 0 0) (.code (q_mY M) (q_mB M) (q_mL M) (q_mT M)) && (q_has (is.getD 1 0) (.initialized (q_mY M).cls) && (decide ((q_mY M).cls ≠ "java/lang/invoke/MethodHandle") && (decide ((q_mY M).cls ≠ "java/lang/invoke/VarHandle") && (decide ((parseMethodDescriptor (q_mY M).desc).map (fun d => d.parameters.length) = some (q_mA M)) && (Nat.ble (q_mL M) 81 && (plainName (q_mY M).cls &&
    (match q_mK M with
    | 0 => q_has (is.getD 2 0) (.static (q_mY M))
    | 1 => decide ((q_mY M).name = "<init>") && (q_has (is.getD 2 0) (.instanceMethod (q_mY M)) && decide (q_mT M = none))
    | 2 => q_has (is.getD 2 0) (.instanceMethod (q_mY M)) && (q_has (is.getD 3 0) (.selects (q_mY M).cls (q_mY M) (q_mY M)) && q_clB (q_mC M) fun r => decide (r.1 = (q_mY M).cls))
    | _ => false)))))))
theorem q_yB_ok {M : qM} {is : List Nat} (h : q_yB M is = true) : q_yOk M := by
  unfold q_yB at h
  simp only [Bool.and_eq_true] at h
  obtain ⟨h1, h2, h3, h4, h5, h6, h7, h8⟩ := h
  refine ⟨q_has_mem h1, q_has_mem h2, of_decide_eq_true h3, of_decide_eq_true h4, of_decide_eq_true h5, Nat.le_of_ble_eq_true h6, h7, ?_⟩
  generalize q_mK M = kd at *
  rcases kd with _ | _ | _ | kd
  · exact ⟨fun _ => q_has_mem h8, (fun q => by cases q), (fun q => by cases q), Nat.zero_le _⟩
  · have h8 : (decide ((q_mY M).name = "<init>") && (q_has (is.getD 2 0) (.instanceMethod (q_mY M)) && decide (q_mT M = none))) = true := h8
    simp only [Bool.and_eq_true] at h8
    exact ⟨(fun q => by cases q), fun _ => ⟨of_decide_eq_true h8.1, q_has_mem h8.2.1, of_decide_eq_true h8.2.2⟩, (fun q => by cases q), by decide⟩
  · have h8 : (q_has (is.getD 2 0) (.instanceMethod (q_mY M)) && (q_has (is.getD 3 0) (.selects (q_mY M).cls (q_mY M) (q_mY M)) && q_clB (q_mC M) fun r => decide (r.1 = (q_mY M).cls))) = true := h8
    simp only [Bool.and_eq_true] at h8
    obtain ⟨r, hr, hf⟩ := q_clB_ok h8.2.2
    exact ⟨(fun q => by cases q), (fun q => by cases q), fun _ => ⟨q_has_mem h8.1, q_has_mem h8.2.1, r, hr, of_decide_eq_true hf⟩, by decide⟩
  · cases h8
noncomputable def q_mB1 (tab : Nat → qM) (M : qM × List Nat) : Bool := q_yB M.1 M.2 && q_all (q_iB tab (q_mY M.1).cls (Nat.beq (q_mK M.1) 1) (q_mB M.1)) (q_mI M.1)
theorem q_tab_of {t : Lean.RArray (qM × List Nat)} {tab : Nat → qM} (hc : q_clsAll) (h : q_allP (fun M => q_mB1 tab M = true) t) (ht : ∀ id, tab id = (t.get id).1 := by exact fun _ => rfl) : q_tabOk tab := by
  refine ⟨hc, fun id => ?_⟩
  have h1 := q_allP_get h id
  rw [ht]
  have h1 : (q_yB (t.get id).1 (t.get id).2 && q_all (q_iB tab (q_mY (t.get id).1).cls (Nat.beq (q_mK (t.get id).1) 1) (q_mB (t.get id).1)) (q_mI (t.get id).1)) = true := h1
  rw [Bool.and_eq_true] at h1
  exact ⟨fun pc => q_iB_ok (q_all_get h1.2 pc), q_yB_ok h1.1⟩
end
section
-- 14.tab0: methods (printed by wip/p1/gen2.py)
set_option maxRecDepth 100000 in
def q_M0 : qM × List Nat := ((yX0_init, cX0_init, nat_lit 1, none, nat_lit 0, nat_lit 1, nat_lit 0, nat_lit 404, nat_lit 6761, .branch (nat_lit 66) (.branch (nat_lit 31) (.branch (nat_lit 16) (.branch (nat_lit 5) (.branch (nat_lit 1) (.leaf (nat_lit 1, nat_lit 0, nat_lit 4, nat_lit 0, nat_lit 0, nat_lit 0, [])) (.branch (nat_lit 4) (.leaf (nat_lit 25, nat_lit 1, nat_lit 0, nat_lit 3, nat_lit 0, nat_lit 2052, [nat_lit 1026, nat_lit 1027])) (.leaf (nat_lit 1, nat_lit 4, nat_lit 4, nat_lit 0, nat_lit 0, nat_lit 0, [])))) (.branch (nat_lit 9) (.branch (nat_lit 7) (.leaf (nat_lit 0, nat_lit 5, nat_lit 1, nat_lit 96, nat_lit 0, nat_lit 0, [])) (.leaf (nat_lit 0, nat_lit 7, nat_lit 1, nat_lit 14, nat_lit 0, nat_lit 0, []))) (.branch (nat_lit 13) (.leaf (nat_lit 18, nat_lit 9, nat_lit 0, nat_lit 9, nat_lit 0, nat_lit 2053, [nat_lit 2054, nat_lit 1178])) (.leaf (nat_lit 15, nat_lit 13, nat_lit 0, nat_lit 11, nat_lit 0, nat_lit 2058, [nat_lit 3]))))) (.branch (nat_lit 21) (.branch (nat_lit 17) (.leaf (nat_lit 1, nat_lit 16, nat_lit 4, nat_lit 0, nat_lit 0, nat_lit 0, [])) (.branch (nat_lit 19) (.leaf (nat_lit 0, nat_lit 17, nat_lit 1, nat_lit 96, nat_lit 0, nat_lit 0, [])) (.leaf (nat_lit 0, nat_lit 19, nat_lit 1, nat_lit 14, nat_lit 0, nat_lit 0, [])))) (.branch (nat_lit 28) (.branch (nat_lit 25) (.leaf (nat_lit 18, nat_lit 21, nat_lit 0, nat_lit 9, nat_lit 0, nat_lit 2053, [nat_lit 2054, nat_lit 1178])) (.leaf (nat_lit 15, nat_lit 25, nat_lit 0, nat_lit 16, nat_lit 1, nat_lit 2059, [nat_lit 3]))) (.branch (nat_lit 29) (.leaf (nat_lit 1, nat_lit 28, nat_lit 4, nat_lit 0, nat_lit 0, nat_lit 0, [])) (.leaf (nat_lit 0, nat_lit 29, nat_lit 1, nat_lit 96, nat_lit 0, nat_lit 0, [])))))) (.branch (nat_lit 49) (.branch (nat_lit 40) (.branch (nat_lit 33) (.leaf (nat_lit 0, nat_lit 31, nat_lit 1, nat_lit 14, nat_lit 0, nat_lit 0, [])) (.branch (nat_lit 37) (.leaf (nat_lit 18, nat_lit 33, nat_lit 0, nat_lit 9, nat_lit 0, nat_lit 2053, [nat_lit 2054, nat_lit 1178])) (.leaf (nat_lit 15, nat_lit 37, nat_lit 0, nat_lit 19, nat_lit 2, nat_lit 2060, [nat_lit 3])))) (.branch (nat_lit 43) (.branch (nat_lit 41) (.leaf (nat_lit 1, nat_lit 40, nat_lit 4, nat_lit 0, nat_lit 0, nat_lit 0, [])) (.leaf (nat_lit 0, nat_lit 41, nat_lit 1, nat_lit 96, nat_lit 0, nat_lit 0, []))) (.branch (nat_lit 45) (.leaf (nat_lit 0, nat_lit 43, nat_lit 1, nat_lit 14, nat_lit 0, nat_lit 0, [])) (.leaf (nat_lit 18, nat_lit 45, nat_lit 0, nat_lit 9, nat_lit 0, nat_lit 2053, [nat_lit 2054, nat_lit 1178]))))) (.branch (nat_lit 57) (.branch (nat_lit 53) (.branch (nat_lit 52) (.leaf (nat_lit 15, nat_lit 49, nat_lit 0, nat_lit 22, nat_lit 3, nat_lit 2061, [nat_lit 3])) (.leaf (nat_lit 1, nat_lit 52, nat_lit 4, nat_lit 0, nat_lit 0, nat_lit 0, []))) (.branch (nat_lit 56) (.leaf (nat_lit 22, nat_lit 53, nat_lit 8, nat_lit 25, nat_lit 10831004, nat_lit 2055, [nat_lit 0, nat_lit 0, nat_lit 0, nat_lit 0, nat_lit 0, nat_lit 0, nat_lit 0, nat_lit 3, nat_lit 3, nat_lit 3, nat_lit 3, nat_lit 3, nat_lit 3, nat_lit 3, nat_lit 3, nat_lit 3, nat_lit 3, nat_lit 3, nat_lit 3])) (.leaf (nat_lit 13, nat_lit 56, nat_lit 0, nat_lit 0, nat_lit 0, nat_lit 0, [])))) (.branch (nat_lit 63) (.branch (nat_lit 60) (.leaf (nat_lit 23, nat_lit 57, nat_lit 1, nat_lit 27, nat_lit 2056, nat_lit 77, [])) (.leaf (nat_lit 15, nat_lit 60, nat_lit 0, nat_lit 28, nat_lit 4, nat_lit 2062, [nat_lit 3]))) (.branch (nat_lit 64) (.leaf (nat_lit 1, nat_lit 63, nat_lit 4, nat_lit 0, nat_lit 0, nat_lit 0, [])) (.leaf (nat_lit 0, nat_lit 64, nat_lit 1, nat_lit 96, nat_lit 0, nat_lit 0, []))))))) (.branch (nat_lit 93) (.branch (nat_lit 79) (.branch (nat_lit 72) (.branch (nat_lit 68) (.leaf (nat_lit 16, nat_lit 66, nat_lit 0, nat_lit 0, nat_lit 0, nat_lit 1178, [])) (.branch (nat_lit 71) (.leaf (nat_lit 15, nat_lit 68, nat_lit 0, nat_lit 32, nat_lit 5, nat_lit 2063, [nat_lit 3])) (.leaf (nat_lit 1, nat_lit 71, nat_lit 4, nat_lit 0, nat_lit 0, nat_lit 0, [])))) (.branch (nat_lit 76) (.branch (nat_lit 73) (.leaf (nat_lit 0, nat_lit 72, nat_lit 0, nat_lit 0, nat_lit 0, nat_lit 0, [])) (.leaf (nat_lit 15, nat_lit 73, nat_lit 0, nat_lit 36, nat_lit 6, nat_lit 2064, [nat_lit 1]))) (.branch (nat_lit 77) (.leaf (nat_lit 1, nat_lit 76, nat_lit 4, nat_lit 0, nat_lit 0, nat_lit 0, [])) (.leaf (nat_lit 0, nat_lit 77, nat_lit 4, nat_lit 40, nat_lit 1000000, nat_lit 2057, []))))) (.branch (nat_lit 84) (.branch (nat_lit 82) (.leaf (nat_lit 15, nat_lit 79, nat_lit 0, nat_lit 41, nat_lit 7, nat_lit 2065, [nat_lit 0])) (.branch (nat_lit 83) (.leaf (nat_lit 1, nat_lit 82, nat_lit 4, nat_lit 0, nat_lit 0, nat_lit 0, [])) (.leaf (nat_lit 0, nat_lit 83, nat_lit 0, nat_lit 0, nat_lit 0, nat_lit 0, [])))) (.branch (nat_lit 88) (.branch (nat_lit 87) (.leaf (nat_lit 15, nat_lit 84, nat_lit 0, nat_lit 45, nat_lit 8, nat_lit 2066, [nat_lit 0])) (.leaf (nat_lit 1, nat_lit 87, nat_lit 4, nat_lit 0, nat_lit 0, nat_lit 0, []))) (.branch (nat_lit 90) (.leaf (nat_lit 0, nat_lit 88, nat_lit 4, nat_lit 40, nat_lit 1000000, nat_lit 2057, [])) (.leaf (nat_lit 15, nat_lit 90, nat_lit 0, nat_lit 48, nat_lit 9, nat_lit 2067, [nat_lit 0])))))) (.branch (nat_lit 104) (.branch (nat_lit 98) (.branch (nat_lit 94) (.leaf (nat_lit 1, nat_lit 93, nat_lit 4, nat_lit 0, nat_lit 0, nat_lit 0, [])) (.branch (nat_lit 95) (.leaf (nat_lit 0, nat_lit 94, nat_lit 0, nat_lit 0, nat_lit 0, nat_lit 0, [])) (.leaf (nat_lit 15, nat_lit 95, nat_lit 0, nat_lit 51, nat_lit 10, nat_lit 2069, [nat_lit 0])))) (.branch (nat_lit 100) (.branch (nat_lit 99) (.leaf (nat_lit 1, nat_lit 98, nat_lit 4, nat_lit 0, nat_lit 0, nat_lit 0, [])) (.leaf (nat_lit 0, nat_lit 99, nat_lit 0, nat_lit 1, nat_lit 0, nat_lit 0, []))) (.branch (nat_lit 103) (.leaf (nat_lit 15, nat_lit 100, nat_lit 0, nat_lit 54, nat_lit 11, nat_lit 2072, [nat_lit 0])) (.leaf (nat_lit 1, nat_lit 103, nat_lit 4, nat_lit 0, nat_lit 0, nat_lit 0, []))))) (.branch (nat_lit 112) (.branch (nat_lit 108) (.branch (nat_lit 106) (.leaf (nat_lit 0, nat_lit 104, nat_lit 1, nat_lit 96, nat_lit 0, nat_lit 0, [])) (.leaf (nat_lit 16, nat_lit 106, nat_lit 0, nat_lit 0, nat_lit 0, nat_lit 1178, []))) (.branch (nat_lit 111) (.leaf (nat_lit 15, nat_lit 108, nat_lit 0, nat_lit 57, nat_lit 12, nat_lit 2074, [nat_lit 3])) (.leaf (nat_lit 1, nat_lit 111, nat_lit 4, nat_lit 0, nat_lit 0, nat_lit 0, [])))) (.branch (nat_lit 116) (.branch (nat_lit 114) (.leaf (nat_lit 0, nat_lit 112, nat_lit 1, nat_lit 96, nat_lit 0, nat_lit 0, [])) (.leaf (nat_lit 16, nat_lit 114, nat_lit 0, nat_lit 0, nat_lit 0, nat_lit 1178, []))) (.branch (nat_lit 119) (.leaf (nat_lit 15, nat_lit 116, nat_lit 0, nat_lit 60, nat_lit 13, nat_lit 2076, [nat_lit 3])) (.leaf (nat_lit 24, nat_lit 119, nat_lit 0, nat_lit 0, nat_lit 0, nat_lit 0, [])))))))), [nat_lit 2051, nat_lit 1009, nat_lit 2050, nat_lit 0])
set_option maxRecDepth 100000 in
def q_M1 : qM × List Nat := ((yX0_solve, cX0_solve, nat_lit 4, some .boolean, nat_lit 0, nat_lit 2, nat_lit 2, nat_lit 0, nat_lit 0, .branch (nat_lit 50) (.branch (nat_lit 23) (.branch (nat_lit 10) (.branch (nat_lit 5) (.branch (nat_lit 1) (.leaf (nat_lit 1, nat_lit 0, nat_lit 4, nat_lit 0, nat_lit 0, nat_lit 0, [])) (.branch (nat_lit 2) (.leaf (nat_lit 1, nat_lit 1, nat_lit 4, nat_lit 1, nat_lit 0, nat_lit 0, [])) (.leaf (nat_lit 14, nat_lit 2, nat_lit 3, nat_lit 63, nat_lit 0, nat_lit 1219, [])))) (.branch (nat_lit 8) (.leaf (nat_lit 15, nat_lit 5, nat_lit 0, nat_lit 28, nat_lit 4, nat_lit 2062, [nat_lit 3])) (.branch (nat_lit 9) (.leaf (nat_lit 1, nat_lit 8, nat_lit 4, nat_lit 0, nat_lit 0, nat_lit 0, [])) (.leaf (nat_lit 1, nat_lit 9, nat_lit 4, nat_lit 1, nat_lit 0, nat_lit 0, []))))) (.branch (nat_lit 17) (.branch (nat_lit 13) (.leaf (nat_lit 14, nat_lit 10, nat_lit 3, nat_lit 66, nat_lit 1, nat_lit 1223, [])) (.branch (nat_lit 16) (.leaf (nat_lit 15, nat_lit 13, nat_lit 0, nat_lit 32, nat_lit 5, nat_lit 2063, [nat_lit 3])) (.leaf (nat_lit 1, nat_lit 16, nat_lit 4, nat_lit 0, nat_lit 0, nat_lit 0, [])))) (.branch (nat_lit 21) (.branch (nat_lit 18) (.leaf (nat_lit 1, nat_lit 17, nat_lit 0, nat_lit 2, nat_lit 0, nat_lit 0, [])) (.leaf (nat_lit 15, nat_lit 18, nat_lit 0, nat_lit 36, nat_lit 6, nat_lit 2064, [nat_lit 1]))) (.branch (nat_lit 22) (.leaf (nat_lit 1, nat_lit 21, nat_lit 4, nat_lit 0, nat_lit 0, nat_lit 0, [])) (.leaf (nat_lit 0, nat_lit 22, nat_lit 0, nat_lit 1, nat_lit 1, nat_lit 0, [])))))) (.branch (nat_lit 35) (.branch (nat_lit 29) (.branch (nat_lit 26) (.leaf (nat_lit 23, nat_lit 23, nat_lit 2, nat_lit 67, nat_lit 5024, nat_lit 6, [])) (.branch (nat_lit 27) (.leaf (nat_lit 1, nat_lit 26, nat_lit 4, nat_lit 0, nat_lit 0, nat_lit 0, [])) (.leaf (nat_lit 0, nat_lit 27, nat_lit 4, nat_lit 40, nat_lit 1000000, nat_lit 2057, [])))) (.branch (nat_lit 33) (.branch (nat_lit 32) (.leaf (nat_lit 15, nat_lit 29, nat_lit 0, nat_lit 48, nat_lit 9, nat_lit 2067, [nat_lit 0])) (.leaf (nat_lit 0, nat_lit 32, nat_lit 0, nat_lit 1, nat_lit 0, nat_lit 0, []))) (.branch (nat_lit 34) (.leaf (nat_lit 2, nat_lit 33, nat_lit 0, nat_lit 3, nat_lit 0, nat_lit 0, [])) (.leaf (nat_lit 1, nat_lit 34, nat_lit 0, nat_lit 3, nat_lit 0, nat_lit 0, []))))) (.branch (nat_lit 42) (.branch (nat_lit 36) (.leaf (nat_lit 1, nat_lit 35, nat_lit 4, nat_lit 0, nat_lit 0, nat_lit 0, [])) (.branch (nat_lit 39) (.leaf (nat_lit 14, nat_lit 36, nat_lit 0, nat_lit 28, nat_lit 4, nat_lit 2062, [])) (.leaf (nat_lit 14, nat_lit 39, nat_lit 8, nat_lit 71, nat_lit 0, nat_lit 1089, [])))) (.branch (nat_lit 46) (.branch (nat_lit 45) (.leaf (nat_lit 9, nat_lit 42, nat_lit 4, nat_lit 78, nat_lit 0, nat_lit 0, [])) (.leaf (nat_lit 1, nat_lit 45, nat_lit 4, nat_lit 0, nat_lit 0, nat_lit 0, []))) (.branch (nat_lit 47) (.leaf (nat_lit 1, nat_lit 46, nat_lit 0, nat_lit 3, nat_lit 0, nat_lit 0, [])) (.leaf (nat_lit 23, nat_lit 47, nat_lit 2, nat_lit 74, nat_lit 5045, nat_lit 3, []))))))) (.branch (nat_lit 75) (.branch (nat_lit 62) (.branch (nat_lit 55) (.branch (nat_lit 53) (.leaf (nat_lit 8, nat_lit 50, nat_lit 0, nat_lit 72, nat_lit 0, nat_lit 0, [])) (.branch (nat_lit 54) (.leaf (nat_lit 1, nat_lit 53, nat_lit 4, nat_lit 0, nat_lit 0, nat_lit 0, [])) (.leaf (nat_lit 1, nat_lit 54, nat_lit 4, nat_lit 0, nat_lit 0, nat_lit 0, [])))) (.branch (nat_lit 58) (.leaf (nat_lit 14, nat_lit 55, nat_lit 0, nat_lit 48, nat_lit 9, nat_lit 2067, [])) (.branch (nat_lit 59) (.leaf (nat_lit 1, nat_lit 58, nat_lit 4, nat_lit 0, nat_lit 0, nat_lit 0, [])) (.leaf (nat_lit 14, nat_lit 59, nat_lit 0, nat_lit 11, nat_lit 0, nat_lit 2058, []))))) (.branch (nat_lit 65) (.branch (nat_lit 63) (.leaf (nat_lit 0, nat_lit 62, nat_lit 0, nat_lit 0, nat_lit 0, nat_lit 0, [])) (.branch (nat_lit 64) (.leaf (nat_lit 20, nat_lit 63, nat_lit 3, nat_lit 0, nat_lit 0, nat_lit 0, [])) (.leaf (nat_lit 1, nat_lit 64, nat_lit 0, nat_lit 3, nat_lit 0, nat_lit 0, [])))) (.branch (nat_lit 69) (.branch (nat_lit 66) (.leaf (nat_lit 20, nat_lit 65, nat_lit 0, nat_lit 0, nat_lit 0, nat_lit 0, [])) (.leaf (nat_lit 23, nat_lit 66, nat_lit 0, nat_lit 78, nat_lit 5039, nat_lit 318, []))) (.branch (nat_lit 72) (.leaf (nat_lit 15, nat_lit 69, nat_lit 0, nat_lit 48, nat_lit 9, nat_lit 2067, [nat_lit 0])) (.leaf (nat_lit 3, nat_lit 72, nat_lit 0, nat_lit 3, nat_lit 1, nat_lit 0, [])))))) (.branch (nat_lit 90) (.branch (nat_lit 80) (.branch (nat_lit 78) (.leaf (nat_lit 10, nat_lit 75, nat_lit 0, nat_lit 34, nat_lit 0, nat_lit 0, [])) (.branch (nat_lit 79) (.leaf (nat_lit 1, nat_lit 78, nat_lit 4, nat_lit 0, nat_lit 0, nat_lit 0, [])) (.leaf (nat_lit 1, nat_lit 79, nat_lit 4, nat_lit 0, nat_lit 0, nat_lit 0, [])))) (.branch (nat_lit 84) (.branch (nat_lit 81) (.leaf (nat_lit 1, nat_lit 80, nat_lit 4, nat_lit 0, nat_lit 0, nat_lit 0, [])) (.leaf (nat_lit 14, nat_lit 81, nat_lit 0, nat_lit 48, nat_lit 9, nat_lit 2067, []))) (.branch (nat_lit 87) (.leaf (nat_lit 23, nat_lit 84, nat_lit 2, nat_lit 84, nat_lit 5049, nat_lit 4, [])) (.leaf (nat_lit 15, nat_lit 87, nat_lit 0, nat_lit 51, nat_lit 10, nat_lit 2069, [nat_lit 0]))))) (.branch (nat_lit 96) (.branch (nat_lit 91) (.leaf (nat_lit 1, nat_lit 90, nat_lit 4, nat_lit 0, nat_lit 0, nat_lit 0, [])) (.branch (nat_lit 94) (.leaf (nat_lit 14, nat_lit 91, nat_lit 0, nat_lit 48, nat_lit 9, nat_lit 2067, [])) (.leaf (nat_lit 0, nat_lit 94, nat_lit 4, nat_lit 40, nat_lit 1000000, nat_lit 2057, [])))) (.branch (nat_lit 100) (.branch (nat_lit 99) (.leaf (nat_lit 9, nat_lit 96, nat_lit 3, nat_lit 103, nat_lit 0, nat_lit 0, [])) (.leaf (nat_lit 0, nat_lit 99, nat_lit 0, nat_lit 1, nat_lit 0, nat_lit 0, []))) (.branch (nat_lit 104) (.leaf (nat_lit 10, nat_lit 100, nat_lit 0, nat_lit 104, nat_lit 0, nat_lit 0, [])) (.leaf (nat_lit 24, nat_lit 104, nat_lit 1, nat_lit 0, nat_lit 0, nat_lit 0, [])))))))), [nat_lit 5023, nat_lit 1009, nat_lit 5021, nat_lit 5022])
set_option maxRecDepth 100000 in
def q_M2 : qM × List Nat := ((yX0_stones, cX0_stones, nat_lit 1, some .int, nat_lit 0, nat_lit 2, nat_lit 0, nat_lit 0, nat_lit 0, .branch (nat_lit 4) (.branch (nat_lit 1) (.leaf (nat_lit 1, nat_lit 0, nat_lit 4, nat_lit 0, nat_lit 0, nat_lit 0, [])) (.leaf (nat_lit 14, nat_lit 1, nat_lit 0, nat_lit 28, nat_lit 4, nat_lit 2062, []))) (.branch (nat_lit 7) (.leaf (nat_lit 14, nat_lit 4, nat_lit 8, nat_lit 88, nat_lit 2, nat_lit 1099, [])) (.leaf (nat_lit 24, nat_lit 7, nat_lit 1, nat_lit 0, nat_lit 0, nat_lit 0, [])))), [nat_lit 5138, nat_lit 1009, nat_lit 5136, nat_lit 5137])
set_option maxRecDepth 100000 in
def q_M3 : qM × List Nat := ((yX0_mayStart, cX0_mayStart, nat_lit 2, some .boolean, nat_lit 0, nat_lit 2, nat_lit 1, nat_lit 0, nat_lit 0, .branch (nat_lit 12) (.branch (nat_lit 7) (.branch (nat_lit 1) (.leaf (nat_lit 1, nat_lit 0, nat_lit 4, nat_lit 0, nat_lit 0, nat_lit 0, [])) (.branch (nat_lit 4) (.leaf (nat_lit 14, nat_lit 1, nat_lit 0, nat_lit 36, nat_lit 6, nat_lit 2064, [])) (.leaf (nat_lit 8, nat_lit 4, nat_lit 1, nat_lit 18, nat_lit 0, nat_lit 0, [])))) (.branch (nat_lit 8) (.leaf (nat_lit 1, nat_lit 7, nat_lit 0, nat_lit 1, nat_lit 0, nat_lit 0, [])) (.branch (nat_lit 9) (.leaf (nat_lit 1, nat_lit 8, nat_lit 4, nat_lit 0, nat_lit 0, nat_lit 0, [])) (.leaf (nat_lit 14, nat_lit 9, nat_lit 0, nat_lit 28, nat_lit 4, nat_lit 2062, []))))) (.branch (nat_lit 19) (.branch (nat_lit 15) (.leaf (nat_lit 14, nat_lit 12, nat_lit 8, nat_lit 91, nat_lit 1, nat_lit 1095, [])) (.branch (nat_lit 18) (.leaf (nat_lit 9, nat_lit 15, nat_lit 1, nat_lit 22, nat_lit 0, nat_lit 0, [])) (.leaf (nat_lit 0, nat_lit 18, nat_lit 0, nat_lit 1, nat_lit 0, nat_lit 0, [])))) (.branch (nat_lit 22) (.leaf (nat_lit 10, nat_lit 19, nat_lit 0, nat_lit 23, nat_lit 0, nat_lit 0, [])) (.branch (nat_lit 23) (.leaf (nat_lit 0, nat_lit 22, nat_lit 0, nat_lit 0, nat_lit 0, nat_lit 0, [])) (.leaf (nat_lit 24, nat_lit 23, nat_lit 1, nat_lit 0, nat_lit 0, nat_lit 0, [])))))), [nat_lit 5048, nat_lit 1009, nat_lit 5047, nat_lit 24])
set_option maxRecDepth 100000 in
def q_M4 : qM × List Nat := ((yX0_waysAt, cX0_waysAt, nat_lit 4, some .int, nat_lit 0, nat_lit 2, nat_lit 1, nat_lit 0, nat_lit 0, .branch (nat_lit 34) (.branch (nat_lit 15) (.branch (nat_lit 4) (.branch (nat_lit 2) (.branch (nat_lit 1) (.leaf (nat_lit 0, nat_lit 0, nat_lit 0, nat_lit 0, nat_lit 0, nat_lit 0, [])) (.leaf (nat_lit 2, nat_lit 1, nat_lit 0, nat_lit 2, nat_lit 0, nat_lit 0, []))) (.branch (nat_lit 3) (.leaf (nat_lit 0, nat_lit 2, nat_lit 0, nat_lit 1, nat_lit 0, nat_lit 0, [])) (.leaf (nat_lit 2, nat_lit 3, nat_lit 0, nat_lit 3, nat_lit 0, nat_lit 0, [])))) (.branch (nat_lit 6) (.branch (nat_lit 5) (.leaf (nat_lit 1, nat_lit 4, nat_lit 0, nat_lit 3, nat_lit 0, nat_lit 0, [])) (.leaf (nat_lit 1, nat_lit 5, nat_lit 4, nat_lit 0, nat_lit 0, nat_lit 0, []))) (.branch (nat_lit 9) (.leaf (nat_lit 14, nat_lit 6, nat_lit 0, nat_lit 28, nat_lit 4, nat_lit 2062, [])) (.branch (nat_lit 12) (.leaf (nat_lit 14, nat_lit 9, nat_lit 8, nat_lit 71, nat_lit 0, nat_lit 1089, [])) (.leaf (nat_lit 9, nat_lit 12, nat_lit 4, nat_lit 63, nat_lit 0, nat_lit 0, [])))))) (.branch (nat_lit 23) (.branch (nat_lit 18) (.branch (nat_lit 16) (.leaf (nat_lit 1, nat_lit 15, nat_lit 0, nat_lit 1, nat_lit 0, nat_lit 0, [])) (.leaf (nat_lit 0, nat_lit 16, nat_lit 4, nat_lit 40, nat_lit 1000000, nat_lit 2057, []))) (.branch (nat_lit 21) (.leaf (nat_lit 9, nat_lit 18, nat_lit 3, nat_lit 57, nat_lit 0, nat_lit 0, [])) (.branch (nat_lit 22) (.leaf (nat_lit 1, nat_lit 21, nat_lit 4, nat_lit 0, nat_lit 0, nat_lit 0, [])) (.leaf (nat_lit 1, nat_lit 22, nat_lit 0, nat_lit 3, nat_lit 0, nat_lit 0, []))))) (.branch (nat_lit 29) (.branch (nat_lit 26) (.leaf (nat_lit 23, nat_lit 23, nat_lit 2, nat_lit 74, nat_lit 5045, nat_lit 3, [])) (.leaf (nat_lit 8, nat_lit 26, nat_lit 0, nat_lit 57, nat_lit 0, nat_lit 0, []))) (.branch (nat_lit 30) (.leaf (nat_lit 1, nat_lit 29, nat_lit 4, nat_lit 0, nat_lit 0, nat_lit 0, [])) (.branch (nat_lit 33) (.leaf (nat_lit 14, nat_lit 30, nat_lit 0, nat_lit 11, nat_lit 0, nat_lit 2058, [])) (.leaf (nat_lit 0, nat_lit 33, nat_lit 0, nat_lit 0, nat_lit 0, nat_lit 0, []))))))) (.branch (nat_lit 49) (.branch (nat_lit 41) (.branch (nat_lit 36) (.branch (nat_lit 35) (.leaf (nat_lit 20, nat_lit 34, nat_lit 3, nat_lit 0, nat_lit 0, nat_lit 0, [])) (.leaf (nat_lit 1, nat_lit 35, nat_lit 0, nat_lit 3, nat_lit 0, nat_lit 0, []))) (.branch (nat_lit 37) (.leaf (nat_lit 20, nat_lit 36, nat_lit 0, nat_lit 0, nat_lit 0, nat_lit 0, [])) (.branch (nat_lit 38) (.leaf (nat_lit 1, nat_lit 37, nat_lit 0, nat_lit 1, nat_lit 0, nat_lit 0, [])) (.leaf (nat_lit 9, nat_lit 38, nat_lit 1, nat_lit 57, nat_lit 0, nat_lit 0, []))))) (.branch (nat_lit 44) (.branch (nat_lit 43) (.leaf (nat_lit 0, nat_lit 41, nat_lit 4, nat_lit 94, nat_lit 999999, nat_lit 5038, [])) (.leaf (nat_lit 1, nat_lit 43, nat_lit 0, nat_lit 2, nat_lit 0, nat_lit 0, []))) (.branch (nat_lit 45) (.leaf (nat_lit 1, nat_lit 44, nat_lit 4, nat_lit 0, nat_lit 0, nat_lit 0, [])) (.branch (nat_lit 48) (.leaf (nat_lit 14, nat_lit 45, nat_lit 0, nat_lit 16, nat_lit 1, nat_lit 2059, [])) (.leaf (nat_lit 0, nat_lit 48, nat_lit 0, nat_lit 0, nat_lit 0, nat_lit 0, [])))))) (.branch (nat_lit 56) (.branch (nat_lit 51) (.branch (nat_lit 50) (.leaf (nat_lit 20, nat_lit 49, nat_lit 3, nat_lit 0, nat_lit 0, nat_lit 0, [])) (.leaf (nat_lit 1, nat_lit 50, nat_lit 0, nat_lit 3, nat_lit 0, nat_lit 0, []))) (.branch (nat_lit 52) (.leaf (nat_lit 20, nat_lit 51, nat_lit 0, nat_lit 0, nat_lit 0, nat_lit 0, [])) (.branch (nat_lit 53) (.leaf (nat_lit 4, nat_lit 52, nat_lit 0, nat_lit 0, nat_lit 0, nat_lit 0, [])) (.leaf (nat_lit 23, nat_lit 53, nat_lit 0, nat_lit 78, nat_lit 5039, nat_lit 318, []))))) (.branch (nat_lit 60) (.branch (nat_lit 57) (.leaf (nat_lit 2, nat_lit 56, nat_lit 0, nat_lit 2, nat_lit 0, nat_lit 0, [])) (.leaf (nat_lit 3, nat_lit 57, nat_lit 0, nat_lit 3, nat_lit 1, nat_lit 0, []))) (.branch (nat_lit 63) (.leaf (nat_lit 10, nat_lit 60, nat_lit 0, nat_lit 4, nat_lit 0, nat_lit 0, [])) (.branch (nat_lit 64) (.leaf (nat_lit 1, nat_lit 63, nat_lit 0, nat_lit 2, nat_lit 0, nat_lit 0, [])) (.leaf (nat_lit 24, nat_lit 64, nat_lit 1, nat_lit 0, nat_lit 0, nat_lit 0, [])))))))), [nat_lit 5052, nat_lit 1009, nat_lit 5051, nat_lit 25])
set_option maxRecDepth 100000 in
def q_M6 : qM × List Nat := ((yX0_followFromBehind, cX0_followFromBehind, nat_lit 4, none, nat_lit 0, nat_lit 2, nat_lit 1, nat_lit 0, nat_lit 0, .branch (nat_lit 21) (.branch (nat_lit 10) (.branch (nat_lit 7) (.branch (nat_lit 1) (.leaf (nat_lit 1, nat_lit 0, nat_lit 4, nat_lit 0, nat_lit 0, nat_lit 0, [])) (.branch (nat_lit 4) (.leaf (nat_lit 14, nat_lit 1, nat_lit 0, nat_lit 28, nat_lit 4, nat_lit 2062, [])) (.leaf (nat_lit 14, nat_lit 4, nat_lit 8, nat_lit 88, nat_lit 2, nat_lit 1099, [])))) (.branch (nat_lit 8) (.leaf (nat_lit 0, nat_lit 7, nat_lit 0, nat_lit 1, nat_lit 0, nat_lit 0, [])) (.branch (nat_lit 9) (.leaf (nat_lit 4, nat_lit 8, nat_lit 1, nat_lit 0, nat_lit 0, nat_lit 0, [])) (.leaf (nat_lit 0, nat_lit 9, nat_lit 0, nat_lit 0, nat_lit 0, nat_lit 0, []))))) (.branch (nat_lit 15) (.branch (nat_lit 13) (.leaf (nat_lit 23, nat_lit 10, nat_lit 0, nat_lit 95, nat_lit 5028, nat_lit 316, [])) (.branch (nat_lit 14) (.leaf (nat_lit 2, nat_lit 13, nat_lit 0, nat_lit 2, nat_lit 0, nat_lit 0, [])) (.leaf (nat_lit 1, nat_lit 14, nat_lit 0, nat_lit 2, nat_lit 0, nat_lit 0, [])))) (.branch (nat_lit 19) (.branch (nat_lit 18) (.leaf (nat_lit 8, nat_lit 15, nat_lit 2, nat_lit 50, nat_lit 0, nat_lit 0, [])) (.leaf (nat_lit 0, nat_lit 18, nat_lit 0, nat_lit 1, nat_lit 0, nat_lit 0, []))) (.branch (nat_lit 20) (.leaf (nat_lit 2, nat_lit 19, nat_lit 0, nat_lit 3, nat_lit 0, nat_lit 0, [])) (.leaf (nat_lit 1, nat_lit 20, nat_lit 0, nat_lit 3, nat_lit 0, nat_lit 0, [])))))) (.branch (nat_lit 34) (.branch (nat_lit 28) (.branch (nat_lit 22) (.leaf (nat_lit 1, nat_lit 21, nat_lit 4, nat_lit 0, nat_lit 0, nat_lit 0, [])) (.branch (nat_lit 25) (.leaf (nat_lit 14, nat_lit 22, nat_lit 0, nat_lit 28, nat_lit 4, nat_lit 2062, [])) (.leaf (nat_lit 14, nat_lit 25, nat_lit 8, nat_lit 71, nat_lit 0, nat_lit 1089, [])))) (.branch (nat_lit 32) (.branch (nat_lit 31) (.leaf (nat_lit 9, nat_lit 28, nat_lit 4, nat_lit 44, nat_lit 0, nat_lit 0, [])) (.leaf (nat_lit 1, nat_lit 31, nat_lit 4, nat_lit 0, nat_lit 0, nat_lit 0, []))) (.branch (nat_lit 33) (.leaf (nat_lit 1, nat_lit 32, nat_lit 0, nat_lit 2, nat_lit 0, nat_lit 0, [])) (.leaf (nat_lit 1, nat_lit 33, nat_lit 0, nat_lit 3, nat_lit 0, nat_lit 0, []))))) (.branch (nat_lit 41) (.branch (nat_lit 35) (.leaf (nat_lit 1, nat_lit 34, nat_lit 0, nat_lit 1, nat_lit 0, nat_lit 0, [])) (.branch (nat_lit 38) (.leaf (nat_lit 23, nat_lit 35, nat_lit 2, nat_lit 98, nat_lit 5029, nat_lit 7, [])) (.leaf (nat_lit 3, nat_lit 38, nat_lit 0, nat_lit 3, nat_lit 1, nat_lit 0, [])))) (.branch (nat_lit 47) (.branch (nat_lit 44) (.leaf (nat_lit 10, nat_lit 41, nat_lit 0, nat_lit 20, nat_lit 0, nat_lit 0, [])) (.leaf (nat_lit 3, nat_lit 44, nat_lit 1, nat_lit 2, nat_lit 1, nat_lit 0, []))) (.branch (nat_lit 50) (.leaf (nat_lit 10, nat_lit 47, nat_lit 0, nat_lit 14, nat_lit 0, nat_lit 0, [])) (.leaf (nat_lit 24, nat_lit 50, nat_lit 0, nat_lit 0, nat_lit 0, nat_lit 0, []))))))), [nat_lit 5027, nat_lit 1009, nat_lit 5026, nat_lit 20])
set_option maxRecDepth 100000 in
def q_M7 : qM × List Nat := ((yX0_followBehind, cX0_followBehind, nat_lit 6, none, nat_lit 0, nat_lit 2, nat_lit 3, nat_lit 0, nat_lit 0, .branch (nat_lit 54) (.branch (nat_lit 25) (.branch (nat_lit 12) (.branch (nat_lit 6) (.branch (nat_lit 1) (.leaf (nat_lit 1, nat_lit 0, nat_lit 4, nat_lit 0, nat_lit 0, nat_lit 0, [])) (.branch (nat_lit 3) (.leaf (nat_lit 0, nat_lit 1, nat_lit 4, nat_lit 40, nat_lit 1000000, nat_lit 2057, [])) (.leaf (nat_lit 15, nat_lit 3, nat_lit 0, nat_lit 41, nat_lit 7, nat_lit 2065, [nat_lit 0])))) (.branch (nat_lit 8) (.branch (nat_lit 7) (.leaf (nat_lit 1, nat_lit 6, nat_lit 4, nat_lit 0, nat_lit 0, nat_lit 0, [])) (.leaf (nat_lit 0, nat_lit 7, nat_lit 0, nat_lit 0, nat_lit 0, nat_lit 0, []))) (.branch (nat_lit 11) (.leaf (nat_lit 15, nat_lit 8, nat_lit 0, nat_lit 45, nat_lit 8, nat_lit 2066, [nat_lit 0])) (.leaf (nat_lit 1, nat_lit 11, nat_lit 4, nat_lit 0, nat_lit 0, nat_lit 0, []))))) (.branch (nat_lit 17) (.branch (nat_lit 15) (.leaf (nat_lit 14, nat_lit 12, nat_lit 0, nat_lit 32, nat_lit 5, nat_lit 2063, [])) (.branch (nat_lit 16) (.leaf (nat_lit 1, nat_lit 15, nat_lit 0, nat_lit 1, nat_lit 0, nat_lit 0, [])) (.leaf (nat_lit 20, nat_lit 16, nat_lit 0, nat_lit 0, nat_lit 0, nat_lit 0, [])))) (.branch (nat_lit 19) (.branch (nat_lit 18) (.leaf (nat_lit 1, nat_lit 17, nat_lit 0, nat_lit 2, nat_lit 0, nat_lit 0, [])) (.leaf (nat_lit 1, nat_lit 18, nat_lit 4, nat_lit 0, nat_lit 0, nat_lit 0, []))) (.branch (nat_lit 22) (.leaf (nat_lit 14, nat_lit 19, nat_lit 0, nat_lit 28, nat_lit 4, nat_lit 2062, [])) (.leaf (nat_lit 14, nat_lit 22, nat_lit 8, nat_lit 71, nat_lit 0, nat_lit 1089, [])))))) (.branch (nat_lit 40) (.branch (nat_lit 32) (.branch (nat_lit 28) (.leaf (nat_lit 9, nat_lit 25, nat_lit 1, nat_lit 32, nat_lit 0, nat_lit 0, [])) (.branch (nat_lit 29) (.leaf (nat_lit 0, nat_lit 28, nat_lit 0, nat_lit 1, nat_lit 0, nat_lit 0, [])) (.leaf (nat_lit 10, nat_lit 29, nat_lit 0, nat_lit 33, nat_lit 0, nat_lit 0, [])))) (.branch (nat_lit 36) (.branch (nat_lit 33) (.leaf (nat_lit 0, nat_lit 32, nat_lit 0, nat_lit 0, nat_lit 0, nat_lit 0, [])) (.leaf (nat_lit 23, nat_lit 33, nat_lit 0, nat_lit 102, nat_lit 5033, nat_lit 145, []))) (.branch (nat_lit 39) (.leaf (nat_lit 8, nat_lit 36, nat_lit 0, nat_lit 146, nat_lit 0, nat_lit 0, [])) (.leaf (nat_lit 1, nat_lit 39, nat_lit 0, nat_lit 1, nat_lit 0, nat_lit 0, []))))) (.branch (nat_lit 46) (.branch (nat_lit 42) (.branch (nat_lit 41) (.leaf (nat_lit 0, nat_lit 40, nat_lit 0, nat_lit 1, nat_lit 0, nat_lit 0, [])) (.leaf (nat_lit 4, nat_lit 41, nat_lit 0, nat_lit 0, nat_lit 0, nat_lit 0, []))) (.branch (nat_lit 43) (.leaf (nat_lit 1, nat_lit 42, nat_lit 4, nat_lit 0, nat_lit 0, nat_lit 0, [])) (.leaf (nat_lit 14, nat_lit 43, nat_lit 0, nat_lit 28, nat_lit 4, nat_lit 2062, [])))) (.branch (nat_lit 52) (.branch (nat_lit 49) (.leaf (nat_lit 14, nat_lit 46, nat_lit 8, nat_lit 88, nat_lit 2, nat_lit 1099, [])) (.leaf (nat_lit 9, nat_lit 49, nat_lit 2, nat_lit 58, nat_lit 0, nat_lit 0, []))) (.branch (nat_lit 53) (.leaf (nat_lit 1, nat_lit 52, nat_lit 4, nat_lit 0, nat_lit 0, nat_lit 0, [])) (.leaf (nat_lit 0, nat_lit 53, nat_lit 0, nat_lit 0, nat_lit 0, nat_lit 0, []))))))) (.branch (nat_lit 150) (.branch (nat_lit 65) (.branch (nat_lit 59) (.branch (nat_lit 55) (.leaf (nat_lit 0, nat_lit 54, nat_lit 0, nat_lit 1, nat_lit 0, nat_lit 0, [])) (.branch (nat_lit 58) (.leaf (nat_lit 23, nat_lit 55, nat_lit 2, nat_lit 106, nat_lit 5034, nat_lit 8, [])) (.leaf (nat_lit 1, nat_lit 58, nat_lit 0, nat_lit 2, nat_lit 0, nat_lit 0, [])))) (.branch (nat_lit 62) (.branch (nat_lit 61) (.leaf (nat_lit 2, nat_lit 59, nat_lit 1, nat_lit 4, nat_lit 0, nat_lit 0, [])) (.leaf (nat_lit 0, nat_lit 61, nat_lit 0, nat_lit 0, nat_lit 0, nat_lit 0, []))) (.branch (nat_lit 64) (.leaf (nat_lit 2, nat_lit 62, nat_lit 1, nat_lit 5, nat_lit 0, nat_lit 0, [])) (.leaf (nat_lit 1, nat_lit 64, nat_lit 0, nat_lit 1, nat_lit 0, nat_lit 0, []))))) (.branch (nat_lit 71) (.branch (nat_lit 67) (.branch (nat_lit 66) (.leaf (nat_lit 0, nat_lit 65, nat_lit 0, nat_lit 1, nat_lit 0, nat_lit 0, [])) (.leaf (nat_lit 4, nat_lit 66, nat_lit 0, nat_lit 0, nat_lit 0, nat_lit 0, []))) (.branch (nat_lit 68) (.leaf (nat_lit 1, nat_lit 67, nat_lit 4, nat_lit 0, nat_lit 0, nat_lit 0, [])) (.leaf (nat_lit 14, nat_lit 68, nat_lit 0, nat_lit 28, nat_lit 4, nat_lit 2062, [])))) (.branch (nat_lit 146) (.branch (nat_lit 74) (.leaf (nat_lit 14, nat_lit 71, nat_lit 8, nat_lit 88, nat_lit 2, nat_lit 1099, [])) (.leaf (nat_lit 9, nat_lit 74, nat_lit 3, nat_lit 146, nat_lit 0, nat_lit 0, []))) (.branch (nat_lit 147) (.leaf (nat_lit 1, nat_lit 146, nat_lit 4, nat_lit 0, nat_lit 0, nat_lit 0, [])) (.leaf (nat_lit 14, nat_lit 147, nat_lit 0, nat_lit 11, nat_lit 0, nat_lit 2058, [])))))) (.branch (nat_lit 159) (.branch (nat_lit 153) (.branch (nat_lit 151) (.leaf (nat_lit 1, nat_lit 150, nat_lit 0, nat_lit 1, nat_lit 0, nat_lit 0, [])) (.branch (nat_lit 152) (.leaf (nat_lit 20, nat_lit 151, nat_lit 3, nat_lit 0, nat_lit 0, nat_lit 0, [])) (.leaf (nat_lit 1, nat_lit 152, nat_lit 0, nat_lit 2, nat_lit 0, nat_lit 0, [])))) (.branch (nat_lit 157) (.branch (nat_lit 154) (.leaf (nat_lit 1, nat_lit 153, nat_lit 4, nat_lit 0, nat_lit 0, nat_lit 0, [])) (.leaf (nat_lit 14, nat_lit 154, nat_lit 0, nat_lit 41, nat_lit 7, nat_lit 2065, []))) (.branch (nat_lit 158) (.leaf (nat_lit 21, nat_lit 157, nat_lit 0, nat_lit 0, nat_lit 0, nat_lit 0, [])) (.leaf (nat_lit 1, nat_lit 158, nat_lit 4, nat_lit 0, nat_lit 0, nat_lit 0, []))))) (.branch (nat_lit 165) (.branch (nat_lit 163) (.branch (nat_lit 162) (.leaf (nat_lit 14, nat_lit 159, nat_lit 0, nat_lit 16, nat_lit 1, nat_lit 2059, [])) (.leaf (nat_lit 1, nat_lit 162, nat_lit 0, nat_lit 1, nat_lit 0, nat_lit 0, []))) (.branch (nat_lit 164) (.leaf (nat_lit 20, nat_lit 163, nat_lit 3, nat_lit 0, nat_lit 0, nat_lit 0, [])) (.leaf (nat_lit 1, nat_lit 164, nat_lit 0, nat_lit 2, nat_lit 0, nat_lit 0, [])))) (.branch (nat_lit 169) (.branch (nat_lit 166) (.leaf (nat_lit 1, nat_lit 165, nat_lit 4, nat_lit 0, nat_lit 0, nat_lit 0, [])) (.leaf (nat_lit 14, nat_lit 166, nat_lit 0, nat_lit 45, nat_lit 8, nat_lit 2066, []))) (.branch (nat_lit 170) (.leaf (nat_lit 21, nat_lit 169, nat_lit 0, nat_lit 0, nat_lit 0, nat_lit 0, [])) (.leaf (nat_lit 24, nat_lit 170, nat_lit 0, nat_lit 0, nat_lit 0, nat_lit 0, [])))))))), [nat_lit 5032, nat_lit 1009, nat_lit 5031, nat_lit 21])
set_option maxRecDepth 100000 in
def q_M8 : qM × List Nat := ((yX0_offer, cX0_offer, nat_lit 3, none, nat_lit 0, nat_lit 2, nat_lit 2, nat_lit 0, nat_lit 0, .branch (nat_lit 10) (.branch (nat_lit 5) (.branch (nat_lit 1) (.leaf (nat_lit 1, nat_lit 0, nat_lit 0, nat_lit 1, nat_lit 0, nat_lit 0, [])) (.branch (nat_lit 2) (.leaf (nat_lit 1, nat_lit 1, nat_lit 4, nat_lit 0, nat_lit 0, nat_lit 0, [])) (.leaf (nat_lit 14, nat_lit 2, nat_lit 0, nat_lit 41, nat_lit 7, nat_lit 2065, [])))) (.branch (nat_lit 8) (.leaf (nat_lit 9, nat_lit 5, nat_lit 3, nat_lit 21, nat_lit 0, nat_lit 0, [])) (.branch (nat_lit 9) (.leaf (nat_lit 1, nat_lit 8, nat_lit 4, nat_lit 0, nat_lit 0, nat_lit 0, [])) (.leaf (nat_lit 1, nat_lit 9, nat_lit 0, nat_lit 1, nat_lit 0, nat_lit 0, []))))) (.branch (nat_lit 15) (.branch (nat_lit 13) (.leaf (nat_lit 15, nat_lit 10, nat_lit 0, nat_lit 41, nat_lit 7, nat_lit 2065, [nat_lit 0])) (.branch (nat_lit 14) (.leaf (nat_lit 1, nat_lit 13, nat_lit 4, nat_lit 0, nat_lit 0, nat_lit 0, [])) (.leaf (nat_lit 1, nat_lit 14, nat_lit 0, nat_lit 2, nat_lit 0, nat_lit 0, [])))) (.branch (nat_lit 18) (.leaf (nat_lit 15, nat_lit 15, nat_lit 0, nat_lit 45, nat_lit 8, nat_lit 2066, [nat_lit 0])) (.branch (nat_lit 50) (.leaf (nat_lit 10, nat_lit 18, nat_lit 0, nat_lit 50, nat_lit 0, nat_lit 0, [])) (.leaf (nat_lit 24, nat_lit 50, nat_lit 0, nat_lit 0, nat_lit 0, nat_lit 0, [])))))), [nat_lit 5037, nat_lit 1009, nat_lit 5036, nat_lit 22])
set_option maxRecDepth 100000 in
def q_M10 : qM × List Nat := ((yX0_followFromAhead, cX0_followFromAhead, nat_lit 3, none, nat_lit 0, nat_lit 2, nat_lit 0, nat_lit 0, nat_lit 0, .branch (nat_lit 4) (.branch (nat_lit 2) (.branch (nat_lit 1) (.leaf (nat_lit 0, nat_lit 0, nat_lit 0, nat_lit 0, nat_lit 0, nat_lit 0, [])) (.leaf (nat_lit 2, nat_lit 1, nat_lit 0, nat_lit 1, nat_lit 0, nat_lit 0, []))) (.branch (nat_lit 3) (.leaf (nat_lit 1, nat_lit 2, nat_lit 0, nat_lit 1, nat_lit 0, nat_lit 0, [])) (.leaf (nat_lit 1, nat_lit 3, nat_lit 4, nat_lit 0, nat_lit 0, nat_lit 0, [])))) (.branch (nat_lit 10) (.branch (nat_lit 7) (.leaf (nat_lit 14, nat_lit 4, nat_lit 0, nat_lit 28, nat_lit 4, nat_lit 2062, [])) (.leaf (nat_lit 14, nat_lit 7, nat_lit 8, nat_lit 88, nat_lit 2, nat_lit 1099, []))) (.branch (nat_lit 44) (.leaf (nat_lit 9, nat_lit 10, nat_lit 3, nat_lit 44, nat_lit 0, nat_lit 0, [])) (.leaf (nat_lit 24, nat_lit 44, nat_lit 0, nat_lit 0, nat_lit 0, nat_lit 0, []))))), [nat_lit 5088, nat_lit 1009, nat_lit 5086, nat_lit 5087])
set_option maxRecDepth 100000 in
def q_M14 : qM × List Nat := ((yX0_allSaySame, cX0_allSaySame, nat_lit 2, some .boolean, nat_lit 0, nat_lit 2, nat_lit 0, nat_lit 0, nat_lit 0, .branch (nat_lit 7) (.branch (nat_lit 4) (.branch (nat_lit 1) (.leaf (nat_lit 1, nat_lit 0, nat_lit 4, nat_lit 0, nat_lit 0, nat_lit 0, [])) (.leaf (nat_lit 23, nat_lit 1, nat_lit 2, nat_lit 130, nat_lit 5122, nat_lit 10, []))) (.branch (nat_lit 5) (.leaf (nat_lit 0, nat_lit 4, nat_lit 0, nat_lit 0, nat_lit 0, nat_lit 0, [])) (.branch (nat_lit 6) (.leaf (nat_lit 2, nat_lit 5, nat_lit 0, nat_lit 1, nat_lit 0, nat_lit 0, [])) (.leaf (nat_lit 1, nat_lit 6, nat_lit 0, nat_lit 1, nat_lit 0, nat_lit 0, []))))) (.branch (nat_lit 14) (.branch (nat_lit 8) (.leaf (nat_lit 1, nat_lit 7, nat_lit 4, nat_lit 0, nat_lit 0, nat_lit 0, [])) (.branch (nat_lit 11) (.leaf (nat_lit 14, nat_lit 8, nat_lit 0, nat_lit 28, nat_lit 4, nat_lit 2062, [])) (.leaf (nat_lit 14, nat_lit 11, nat_lit 8, nat_lit 88, nat_lit 2, nat_lit 1099, [])))) (.branch (nat_lit 34) (.leaf (nat_lit 9, nat_lit 14, nat_lit 3, nat_lit 34, nat_lit 0, nat_lit 0, [])) (.branch (nat_lit 35) (.leaf (nat_lit 0, nat_lit 34, nat_lit 0, nat_lit 1, nat_lit 0, nat_lit 0, [])) (.leaf (nat_lit 24, nat_lit 35, nat_lit 1, nat_lit 0, nat_lit 0, nat_lit 0, [])))))), [nat_lit 5121, nat_lit 1009, nat_lit 5119, nat_lit 5120])
set_option maxRecDepth 100000 in
def q_M16 : qM × List Nat := ((yX0_trace, cX0_trace, nat_lit 5, none, nat_lit 0, nat_lit 2, nat_lit 1, nat_lit 0, nat_lit 0, .branch (nat_lit 18) (.branch (nat_lit 10) (.branch (nat_lit 5) (.branch (nat_lit 1) (.leaf (nat_lit 1, nat_lit 0, nat_lit 4, nat_lit 0, nat_lit 0, nat_lit 0, [])) (.branch (nat_lit 2) (.leaf (nat_lit 1, nat_lit 1, nat_lit 0, nat_lit 1, nat_lit 0, nat_lit 0, [])) (.leaf (nat_lit 23, nat_lit 2, nat_lit 2, nat_lit 136, nat_lit 5065, nat_lit 17, [])))) (.branch (nat_lit 6) (.leaf (nat_lit 2, nat_lit 5, nat_lit 0, nat_lit 2, nat_lit 0, nat_lit 0, [])) (.branch (nat_lit 7) (.leaf (nat_lit 1, nat_lit 6, nat_lit 4, nat_lit 0, nat_lit 0, nat_lit 0, [])) (.leaf (nat_lit 14, nat_lit 7, nat_lit 0, nat_lit 54, nat_lit 11, nat_lit 2072, []))))) (.branch (nat_lit 15) (.branch (nat_lit 11) (.leaf (nat_lit 2, nat_lit 10, nat_lit 0, nat_lit 3, nat_lit 0, nat_lit 0, [])) (.branch (nat_lit 12) (.leaf (nat_lit 1, nat_lit 11, nat_lit 4, nat_lit 0, nat_lit 0, nat_lit 0, [])) (.leaf (nat_lit 14, nat_lit 12, nat_lit 0, nat_lit 60, nat_lit 13, nat_lit 2076, [])))) (.branch (nat_lit 16) (.leaf (nat_lit 0, nat_lit 15, nat_lit 0, nat_lit 0, nat_lit 0, nat_lit 0, [])) (.branch (nat_lit 17) (.leaf (nat_lit 1, nat_lit 16, nat_lit 0, nat_lit 3, nat_lit 0, nat_lit 0, [])) (.leaf (nat_lit 21, nat_lit 17, nat_lit 0, nat_lit 0, nat_lit 0, nat_lit 0, [])))))) (.branch (nat_lit 26) (.branch (nat_lit 23) (.branch (nat_lit 19) (.leaf (nat_lit 1, nat_lit 18, nat_lit 4, nat_lit 0, nat_lit 0, nat_lit 0, [])) (.branch (nat_lit 22) (.leaf (nat_lit 14, nat_lit 19, nat_lit 0, nat_lit 57, nat_lit 12, nat_lit 2074, [])) (.leaf (nat_lit 0, nat_lit 22, nat_lit 0, nat_lit 0, nat_lit 0, nat_lit 0, [])))) (.branch (nat_lit 24) (.leaf (nat_lit 0, nat_lit 23, nat_lit 0, nat_lit 0, nat_lit 0, nat_lit 0, [])) (.branch (nat_lit 25) (.leaf (nat_lit 21, nat_lit 24, nat_lit 0, nat_lit 0, nat_lit 0, nat_lit 0, [])) (.leaf (nat_lit 0, nat_lit 25, nat_lit 0, nat_lit 1, nat_lit 0, nat_lit 0, []))))) (.branch (nat_lit 31) (.branch (nat_lit 28) (.leaf (nat_lit 2, nat_lit 26, nat_lit 1, nat_lit 4, nat_lit 0, nat_lit 0, [])) (.branch (nat_lit 30) (.leaf (nat_lit 1, nat_lit 28, nat_lit 1, nat_lit 4, nat_lit 0, nat_lit 0, [])) (.leaf (nat_lit 1, nat_lit 30, nat_lit 4, nat_lit 0, nat_lit 0, nat_lit 0, [])))) (.branch (nat_lit 37) (.branch (nat_lit 34) (.leaf (nat_lit 14, nat_lit 31, nat_lit 0, nat_lit 28, nat_lit 4, nat_lit 2062, [])) (.leaf (nat_lit 14, nat_lit 34, nat_lit 8, nat_lit 88, nat_lit 2, nat_lit 1099, []))) (.branch (nat_lit 63) (.leaf (nat_lit 9, nat_lit 37, nat_lit 3, nat_lit 63, nat_lit 0, nat_lit 0, [])) (.leaf (nat_lit 24, nat_lit 63, nat_lit 0, nat_lit 0, nat_lit 0, nat_lit 0, []))))))), [nat_lit 5064, nat_lit 1009, nat_lit 5062, nat_lit 5063])
set_option maxRecDepth 100000 in
def q_M17 : qM × List Nat := ((yX0_traceFirst, cX0_traceFirst, nat_lit 4, some .int, nat_lit 0, nat_lit 2, nat_lit 1, nat_lit 0, nat_lit 0, .branch (nat_lit 39) (.branch (nat_lit 17) (.branch (nat_lit 5) (.branch (nat_lit 2) (.branch (nat_lit 1) (.leaf (nat_lit 1, nat_lit 0, nat_lit 0, nat_lit 1, nat_lit 0, nat_lit 0, [])) (.leaf (nat_lit 2, nat_lit 1, nat_lit 0, nat_lit 2, nat_lit 0, nat_lit 0, []))) (.branch (nat_lit 3) (.leaf (nat_lit 0, nat_lit 2, nat_lit 0, nat_lit 1, nat_lit 0, nat_lit 0, [])) (.branch (nat_lit 4) (.leaf (nat_lit 2, nat_lit 3, nat_lit 0, nat_lit 3, nat_lit 0, nat_lit 0, [])) (.leaf (nat_lit 1, nat_lit 4, nat_lit 0, nat_lit 3, nat_lit 0, nat_lit 0, []))))) (.branch (nat_lit 12) (.branch (nat_lit 6) (.leaf (nat_lit 1, nat_lit 5, nat_lit 4, nat_lit 0, nat_lit 0, nat_lit 0, [])) (.branch (nat_lit 9) (.leaf (nat_lit 14, nat_lit 6, nat_lit 0, nat_lit 28, nat_lit 4, nat_lit 2062, [])) (.leaf (nat_lit 14, nat_lit 9, nat_lit 8, nat_lit 71, nat_lit 0, nat_lit 1089, [])))) (.branch (nat_lit 15) (.leaf (nat_lit 9, nat_lit 12, nat_lit 4, nat_lit 74, nat_lit 0, nat_lit 0, [])) (.branch (nat_lit 16) (.leaf (nat_lit 1, nat_lit 15, nat_lit 4, nat_lit 0, nat_lit 0, nat_lit 0, [])) (.leaf (nat_lit 1, nat_lit 16, nat_lit 0, nat_lit 3, nat_lit 0, nat_lit 0, [])))))) (.branch (nat_lit 29) (.branch (nat_lit 24) (.branch (nat_lit 20) (.leaf (nat_lit 23, nat_lit 17, nat_lit 2, nat_lit 74, nat_lit 5045, nat_lit 3, [])) (.branch (nat_lit 23) (.leaf (nat_lit 8, nat_lit 20, nat_lit 0, nat_lit 68, nat_lit 0, nat_lit 0, [])) (.leaf (nat_lit 1, nat_lit 23, nat_lit 4, nat_lit 0, nat_lit 0, nat_lit 0, [])))) (.branch (nat_lit 27) (.leaf (nat_lit 14, nat_lit 24, nat_lit 0, nat_lit 11, nat_lit 0, nat_lit 2058, [])) (.branch (nat_lit 28) (.leaf (nat_lit 0, nat_lit 27, nat_lit 0, nat_lit 0, nat_lit 0, nat_lit 0, [])) (.leaf (nat_lit 20, nat_lit 28, nat_lit 3, nat_lit 0, nat_lit 0, nat_lit 0, []))))) (.branch (nat_lit 32) (.branch (nat_lit 30) (.leaf (nat_lit 1, nat_lit 29, nat_lit 0, nat_lit 3, nat_lit 0, nat_lit 0, [])) (.branch (nat_lit 31) (.leaf (nat_lit 20, nat_lit 30, nat_lit 0, nat_lit 0, nat_lit 0, nat_lit 0, [])) (.leaf (nat_lit 1, nat_lit 31, nat_lit 4, nat_lit 0, nat_lit 0, nat_lit 0, [])))) (.branch (nat_lit 35) (.leaf (nat_lit 14, nat_lit 32, nat_lit 0, nat_lit 48, nat_lit 9, nat_lit 2067, [])) (.branch (nat_lit 38) (.leaf (nat_lit 9, nat_lit 35, nat_lit 1, nat_lit 68, nat_lit 0, nat_lit 0, [])) (.leaf (nat_lit 1, nat_lit 38, nat_lit 0, nat_lit 2, nat_lit 0, nat_lit 0, []))))))) (.branch (nat_lit 56) (.branch (nat_lit 46) (.branch (nat_lit 43) (.branch (nat_lit 40) (.leaf (nat_lit 1, nat_lit 39, nat_lit 4, nat_lit 0, nat_lit 0, nat_lit 0, [])) (.leaf (nat_lit 14, nat_lit 40, nat_lit 0, nat_lit 16, nat_lit 1, nat_lit 2059, []))) (.branch (nat_lit 44) (.leaf (nat_lit 0, nat_lit 43, nat_lit 0, nat_lit 0, nat_lit 0, nat_lit 0, [])) (.branch (nat_lit 45) (.leaf (nat_lit 20, nat_lit 44, nat_lit 3, nat_lit 0, nat_lit 0, nat_lit 0, [])) (.leaf (nat_lit 1, nat_lit 45, nat_lit 0, nat_lit 3, nat_lit 0, nat_lit 0, []))))) (.branch (nat_lit 51) (.branch (nat_lit 47) (.leaf (nat_lit 20, nat_lit 46, nat_lit 0, nat_lit 0, nat_lit 0, nat_lit 0, [])) (.branch (nat_lit 50) (.leaf (nat_lit 9, nat_lit 47, nat_lit 3, nat_lit 57, nat_lit 0, nat_lit 0, [])) (.leaf (nat_lit 1, nat_lit 50, nat_lit 4, nat_lit 0, nat_lit 0, nat_lit 0, [])))) (.branch (nat_lit 52) (.leaf (nat_lit 1, nat_lit 51, nat_lit 0, nat_lit 3, nat_lit 0, nat_lit 0, [])) (.branch (nat_lit 55) (.leaf (nat_lit 15, nat_lit 52, nat_lit 0, nat_lit 54, nat_lit 11, nat_lit 2072, [nat_lit 0])) (.leaf (nat_lit 1, nat_lit 55, nat_lit 0, nat_lit 2, nat_lit 0, nat_lit 0, [])))))) (.branch (nat_lit 64) (.branch (nat_lit 59) (.branch (nat_lit 57) (.leaf (nat_lit 24, nat_lit 56, nat_lit 1, nat_lit 0, nat_lit 0, nat_lit 0, [])) (.branch (nat_lit 58) (.leaf (nat_lit 1, nat_lit 57, nat_lit 0, nat_lit 2, nat_lit 0, nat_lit 0, [])) (.leaf (nat_lit 1, nat_lit 58, nat_lit 4, nat_lit 0, nat_lit 0, nat_lit 0, [])))) (.branch (nat_lit 62) (.leaf (nat_lit 14, nat_lit 59, nat_lit 0, nat_lit 16, nat_lit 1, nat_lit 2059, [])) (.branch (nat_lit 63) (.leaf (nat_lit 0, nat_lit 62, nat_lit 0, nat_lit 0, nat_lit 0, nat_lit 0, [])) (.leaf (nat_lit 20, nat_lit 63, nat_lit 3, nat_lit 0, nat_lit 0, nat_lit 0, []))))) (.branch (nat_lit 67) (.branch (nat_lit 65) (.leaf (nat_lit 1, nat_lit 64, nat_lit 0, nat_lit 3, nat_lit 0, nat_lit 0, [])) (.branch (nat_lit 66) (.leaf (nat_lit 20, nat_lit 65, nat_lit 0, nat_lit 0, nat_lit 0, nat_lit 0, [])) (.leaf (nat_lit 4, nat_lit 66, nat_lit 1, nat_lit 0, nat_lit 0, nat_lit 0, [])))) (.branch (nat_lit 68) (.leaf (nat_lit 2, nat_lit 67, nat_lit 0, nat_lit 2, nat_lit 0, nat_lit 0, [])) (.branch (nat_lit 71) (.leaf (nat_lit 3, nat_lit 68, nat_lit 0, nat_lit 3, nat_lit 1, nat_lit 0, [])) (.leaf (nat_lit 10, nat_lit 71, nat_lit 0, nat_lit 4, nat_lit 0, nat_lit 0, [])))))))), [nat_lit 5068, nat_lit 1009, nat_lit 5067, nat_lit 26])
set_option maxRecDepth 100000 in
def q_M20 : qM × List Nat := ((yX1_init, cX1_init, nat_lit 1, none, nat_lit 1, nat_lit 1, nat_lit 0, nat_lit 4, nat_lit 240, .branch (nat_lit 22) (.branch (nat_lit 10) (.branch (nat_lit 5) (.branch (nat_lit 1) (.leaf (nat_lit 1, nat_lit 0, nat_lit 4, nat_lit 0, nat_lit 0, nat_lit 0, [])) (.branch (nat_lit 4) (.leaf (nat_lit 25, nat_lit 1, nat_lit 0, nat_lit 3, nat_lit 0, nat_lit 1184, [nat_lit 1026, nat_lit 1027])) (.leaf (nat_lit 1, nat_lit 4, nat_lit 4, nat_lit 0, nat_lit 0, nat_lit 0, [])))) (.branch (nat_lit 6) (.leaf (nat_lit 0, nat_lit 5, nat_lit 0, nat_lit 0, nat_lit 0, nat_lit 0, [])) (.branch (nat_lit 9) (.leaf (nat_lit 15, nat_lit 6, nat_lit 1, nat_lit 9, nat_lit 0, nat_lit 1185, [nat_lit 0])) (.leaf (nat_lit 1, nat_lit 9, nat_lit 4, nat_lit 0, nat_lit 0, nat_lit 0, []))))) (.branch (nat_lit 15) (.branch (nat_lit 11) (.leaf (nat_lit 0, nat_lit 10, nat_lit 0, nat_lit 0, nat_lit 0, nat_lit 0, [])) (.branch (nat_lit 14) (.leaf (nat_lit 15, nat_lit 11, nat_lit 1, nat_lit 15, nat_lit 1, nat_lit 1188, [nat_lit 0])) (.leaf (nat_lit 1, nat_lit 14, nat_lit 4, nat_lit 0, nat_lit 0, nat_lit 0, [])))) (.branch (nat_lit 17) (.leaf (nat_lit 0, nat_lit 15, nat_lit 1, nat_lit 60, nat_lit 0, nat_lit 0, [])) (.branch (nat_lit 19) (.leaf (nat_lit 16, nat_lit 17, nat_lit 0, nat_lit 0, nat_lit 0, nat_lit 1178, [])) (.leaf (nat_lit 15, nat_lit 19, nat_lit 1, nat_lit 18, nat_lit 2, nat_lit 1191, [nat_lit 3])))))) (.branch (nat_lit 33) (.branch (nat_lit 27) (.branch (nat_lit 23) (.leaf (nat_lit 1, nat_lit 22, nat_lit 4, nat_lit 0, nat_lit 0, nat_lit 0, [])) (.branch (nat_lit 25) (.leaf (nat_lit 0, nat_lit 23, nat_lit 1, nat_lit 60, nat_lit 0, nat_lit 0, [])) (.leaf (nat_lit 16, nat_lit 25, nat_lit 0, nat_lit 0, nat_lit 0, nat_lit 1178, [])))) (.branch (nat_lit 30) (.leaf (nat_lit 15, nat_lit 27, nat_lit 1, nat_lit 22, nat_lit 3, nat_lit 1194, [nat_lit 3])) (.branch (nat_lit 31) (.leaf (nat_lit 1, nat_lit 30, nat_lit 4, nat_lit 0, nat_lit 0, nat_lit 0, [])) (.leaf (nat_lit 0, nat_lit 31, nat_lit 1, nat_lit 60, nat_lit 0, nat_lit 0, []))))) (.branch (nat_lit 39) (.branch (nat_lit 35) (.leaf (nat_lit 16, nat_lit 33, nat_lit 0, nat_lit 0, nat_lit 0, nat_lit 1178, [])) (.branch (nat_lit 38) (.leaf (nat_lit 15, nat_lit 35, nat_lit 1, nat_lit 25, nat_lit 4, nat_lit 1197, [nat_lit 3])) (.leaf (nat_lit 1, nat_lit 38, nat_lit 4, nat_lit 0, nat_lit 0, nat_lit 0, [])))) (.branch (nat_lit 43) (.branch (nat_lit 41) (.leaf (nat_lit 0, nat_lit 39, nat_lit 1, nat_lit 60, nat_lit 0, nat_lit 0, [])) (.leaf (nat_lit 16, nat_lit 41, nat_lit 0, nat_lit 0, nat_lit 0, nat_lit 1178, []))) (.branch (nat_lit 46) (.leaf (nat_lit 15, nat_lit 43, nat_lit 1, nat_lit 28, nat_lit 5, nat_lit 1200, [nat_lit 3])) (.leaf (nat_lit 24, nat_lit 46, nat_lit 0, nat_lit 0, nat_lit 0, nat_lit 0, []))))))), [nat_lit 1183, nat_lit 1005, nat_lit 1182, nat_lit 0])
set_option maxRecDepth 100000 in
def q_M21 : qM × List Nat := ((yX1_copyFrom, cX1_copyFrom, nat_lit 2, none, nat_lit 1, nat_lit 2, nat_lit 1, nat_lit 0, nat_lit 0, .branch (nat_lit 37) (.branch (nat_lit 20) (.branch (nat_lit 9) (.branch (nat_lit 2) (.branch (nat_lit 1) (.leaf (nat_lit 1, nat_lit 0, nat_lit 4, nat_lit 0, nat_lit 0, nat_lit 0, [])) (.leaf (nat_lit 1, nat_lit 1, nat_lit 4, nat_lit 1, nat_lit 0, nat_lit 0, []))) (.branch (nat_lit 5) (.leaf (nat_lit 14, nat_lit 2, nat_lit 1, nat_lit 9, nat_lit 0, nat_lit 1185, [])) (.branch (nat_lit 8) (.leaf (nat_lit 15, nat_lit 5, nat_lit 1, nat_lit 9, nat_lit 0, nat_lit 1185, [nat_lit 0])) (.leaf (nat_lit 1, nat_lit 8, nat_lit 4, nat_lit 0, nat_lit 0, nat_lit 0, []))))) (.branch (nat_lit 13) (.branch (nat_lit 10) (.leaf (nat_lit 1, nat_lit 9, nat_lit 4, nat_lit 1, nat_lit 0, nat_lit 0, [])) (.leaf (nat_lit 14, nat_lit 10, nat_lit 1, nat_lit 15, nat_lit 1, nat_lit 1188, []))) (.branch (nat_lit 16) (.leaf (nat_lit 15, nat_lit 13, nat_lit 1, nat_lit 15, nat_lit 1, nat_lit 1188, [nat_lit 0])) (.branch (nat_lit 17) (.leaf (nat_lit 1, nat_lit 16, nat_lit 4, nat_lit 1, nat_lit 0, nat_lit 0, [])) (.leaf (nat_lit 14, nat_lit 17, nat_lit 1, nat_lit 18, nat_lit 2, nat_lit 1191, [])))))) (.branch (nat_lit 28) (.branch (nat_lit 22) (.branch (nat_lit 21) (.leaf (nat_lit 0, nat_lit 20, nat_lit 0, nat_lit 0, nat_lit 0, nat_lit 0, [])) (.leaf (nat_lit 1, nat_lit 21, nat_lit 4, nat_lit 0, nat_lit 0, nat_lit 0, []))) (.branch (nat_lit 25) (.leaf (nat_lit 14, nat_lit 22, nat_lit 1, nat_lit 18, nat_lit 2, nat_lit 1191, [])) (.branch (nat_lit 26) (.leaf (nat_lit 0, nat_lit 25, nat_lit 0, nat_lit 0, nat_lit 0, nat_lit 0, [])) (.leaf (nat_lit 0, nat_lit 26, nat_lit 1, nat_lit 60, nat_lit 0, nat_lit 0, []))))) (.branch (nat_lit 32) (.branch (nat_lit 31) (.leaf (nat_lit 26, nat_lit 28, nat_lit 0, nat_lit 31, nat_lit 0, nat_lit 4143, [nat_lit 3096, nat_lit 3095, nat_lit 1014])) (.leaf (nat_lit 1, nat_lit 31, nat_lit 4, nat_lit 1, nat_lit 0, nat_lit 0, []))) (.branch (nat_lit 35) (.leaf (nat_lit 14, nat_lit 32, nat_lit 1, nat_lit 22, nat_lit 3, nat_lit 1194, [])) (.branch (nat_lit 36) (.leaf (nat_lit 0, nat_lit 35, nat_lit 0, nat_lit 0, nat_lit 0, nat_lit 0, [])) (.leaf (nat_lit 1, nat_lit 36, nat_lit 4, nat_lit 0, nat_lit 0, nat_lit 0, []))))))) (.branch (nat_lit 56) (.branch (nat_lit 47) (.branch (nat_lit 41) (.branch (nat_lit 40) (.leaf (nat_lit 14, nat_lit 37, nat_lit 1, nat_lit 22, nat_lit 3, nat_lit 1194, [])) (.leaf (nat_lit 0, nat_lit 40, nat_lit 0, nat_lit 0, nat_lit 0, nat_lit 0, []))) (.branch (nat_lit 43) (.leaf (nat_lit 0, nat_lit 41, nat_lit 1, nat_lit 60, nat_lit 0, nat_lit 0, [])) (.branch (nat_lit 46) (.leaf (nat_lit 26, nat_lit 43, nat_lit 0, nat_lit 31, nat_lit 0, nat_lit 4143, [nat_lit 3096, nat_lit 3095, nat_lit 1014])) (.leaf (nat_lit 1, nat_lit 46, nat_lit 4, nat_lit 1, nat_lit 0, nat_lit 0, []))))) (.branch (nat_lit 51) (.branch (nat_lit 50) (.leaf (nat_lit 14, nat_lit 47, nat_lit 1, nat_lit 25, nat_lit 4, nat_lit 1197, [])) (.leaf (nat_lit 0, nat_lit 50, nat_lit 0, nat_lit 0, nat_lit 0, nat_lit 0, []))) (.branch (nat_lit 52) (.leaf (nat_lit 1, nat_lit 51, nat_lit 4, nat_lit 0, nat_lit 0, nat_lit 0, [])) (.branch (nat_lit 55) (.leaf (nat_lit 14, nat_lit 52, nat_lit 1, nat_lit 25, nat_lit 4, nat_lit 1197, [])) (.leaf (nat_lit 0, nat_lit 55, nat_lit 0, nat_lit 0, nat_lit 0, nat_lit 0, [])))))) (.branch (nat_lit 66) (.branch (nat_lit 61) (.branch (nat_lit 58) (.leaf (nat_lit 0, nat_lit 56, nat_lit 1, nat_lit 60, nat_lit 0, nat_lit 0, [])) (.leaf (nat_lit 26, nat_lit 58, nat_lit 0, nat_lit 31, nat_lit 0, nat_lit 4143, [nat_lit 3096, nat_lit 3095, nat_lit 1014]))) (.branch (nat_lit 62) (.leaf (nat_lit 1, nat_lit 61, nat_lit 4, nat_lit 1, nat_lit 0, nat_lit 0, [])) (.branch (nat_lit 65) (.leaf (nat_lit 14, nat_lit 62, nat_lit 1, nat_lit 28, nat_lit 5, nat_lit 1200, [])) (.leaf (nat_lit 0, nat_lit 65, nat_lit 0, nat_lit 0, nat_lit 0, nat_lit 0, []))))) (.branch (nat_lit 71) (.branch (nat_lit 67) (.leaf (nat_lit 1, nat_lit 66, nat_lit 4, nat_lit 0, nat_lit 0, nat_lit 0, [])) (.branch (nat_lit 70) (.leaf (nat_lit 14, nat_lit 67, nat_lit 1, nat_lit 28, nat_lit 5, nat_lit 1200, [])) (.leaf (nat_lit 0, nat_lit 70, nat_lit 0, nat_lit 0, nat_lit 0, nat_lit 0, [])))) (.branch (nat_lit 73) (.leaf (nat_lit 0, nat_lit 71, nat_lit 1, nat_lit 60, nat_lit 0, nat_lit 0, [])) (.branch (nat_lit 76) (.leaf (nat_lit 26, nat_lit 73, nat_lit 0, nat_lit 31, nat_lit 0, nat_lit 4143, [nat_lit 3096, nat_lit 3095, nat_lit 1014])) (.leaf (nat_lit 24, nat_lit 76, nat_lit 0, nat_lit 0, nat_lit 0, nat_lit 0, [])))))))), [nat_lit 4142, nat_lit 1005, nat_lit 4140, nat_lit 4141])
set_option maxRecDepth 100000 in
def q_M24 : qM × List Nat := ((yX2_init, cX2_init, nat_lit 1, none, nat_lit 2, nat_lit 1, nat_lit 0, nat_lit 6, nat_lit 249, .branch (nat_lit 15) (.branch (nat_lit 5) (.branch (nat_lit 1) (.leaf (nat_lit 1, nat_lit 0, nat_lit 4, nat_lit 0, nat_lit 0, nat_lit 0, [])) (.branch (nat_lit 4) (.leaf (nat_lit 25, nat_lit 1, nat_lit 0, nat_lit 3, nat_lit 0, nat_lit 2033, [nat_lit 1026, nat_lit 1027])) (.leaf (nat_lit 1, nat_lit 4, nat_lit 4, nat_lit 0, nat_lit 0, nat_lit 0, [])))) (.branch (nat_lit 9) (.branch (nat_lit 8) (.leaf (nat_lit 22, nat_lit 5, nat_lit 1, nat_lit 9, nat_lit 11801005, nat_lit 2034, [nat_lit 0, nat_lit 0, nat_lit 3, nat_lit 3, nat_lit 3, nat_lit 3])) (.leaf (nat_lit 13, nat_lit 8, nat_lit 0, nat_lit 0, nat_lit 0, nat_lit 0, []))) (.branch (nat_lit 12) (.leaf (nat_lit 23, nat_lit 9, nat_lit 1, nat_lit 11, nat_lit 2035, nat_lit 20, [])) (.leaf (nat_lit 15, nat_lit 12, nat_lit 2, nat_lit 12, nat_lit 0, nat_lit 2036, [nat_lit 3]))))) (.branch (nat_lit 22) (.branch (nat_lit 17) (.branch (nat_lit 16) (.leaf (nat_lit 1, nat_lit 15, nat_lit 4, nat_lit 0, nat_lit 0, nat_lit 0, [])) (.leaf (nat_lit 0, nat_lit 16, nat_lit 0, nat_lit 3, nat_lit 0, nat_lit 0, []))) (.branch (nat_lit 19) (.leaf (nat_lit 16, nat_lit 17, nat_lit 0, nat_lit 0, nat_lit 0, nat_lit 1178, [])) (.leaf (nat_lit 15, nat_lit 19, nat_lit 2, nat_lit 18, nat_lit 1, nat_lit 2038, [nat_lit 3])))) (.branch (nat_lit 24) (.branch (nat_lit 23) (.leaf (nat_lit 1, nat_lit 22, nat_lit 4, nat_lit 0, nat_lit 0, nat_lit 0, [])) (.leaf (nat_lit 0, nat_lit 23, nat_lit 0, nat_lit 0, nat_lit 0, nat_lit 0, []))) (.branch (nat_lit 27) (.leaf (nat_lit 15, nat_lit 24, nat_lit 2, nat_lit 22, nat_lit 2, nat_lit 2039, [nat_lit 0])) (.leaf (nat_lit 24, nat_lit 27, nat_lit 0, nat_lit 0, nat_lit 0, nat_lit 0, [])))))), [nat_lit 2032, nat_lit 1008, nat_lit 2031, nat_lit 0])
set_option maxRecDepth 100000 in
def q_M25 : qM × List Nat := ((yX2_readRound, cX2_readRound, nat_lit 5, some .boolean, nat_lit 2, nat_lit 2, nat_lit 2, nat_lit 0, nat_lit 0, .branch (nat_lit 26) (.branch (nat_lit 13) (.branch (nat_lit 5) (.branch (nat_lit 1) (.leaf (nat_lit 1, nat_lit 0, nat_lit 4, nat_lit 0, nat_lit 0, nat_lit 0, [])) (.branch (nat_lit 4) (.leaf (nat_lit 14, nat_lit 1, nat_lit 2, nat_lit 12, nat_lit 0, nat_lit 2036, [])) (.leaf (nat_lit 0, nat_lit 4, nat_lit 0, nat_lit 0, nat_lit 0, nat_lit 0, [])))) (.branch (nat_lit 9) (.branch (nat_lit 8) (.leaf (nat_lit 15, nat_lit 5, nat_lit 1, nat_lit 26, nat_lit 0, nat_lit 1186, [nat_lit 0])) (.leaf (nat_lit 1, nat_lit 8, nat_lit 4, nat_lit 0, nat_lit 0, nat_lit 0, []))) (.branch (nat_lit 12) (.leaf (nat_lit 14, nat_lit 9, nat_lit 2, nat_lit 12, nat_lit 0, nat_lit 2036, [])) (.leaf (nat_lit 0, nat_lit 12, nat_lit 0, nat_lit 0, nat_lit 0, nat_lit 0, []))))) (.branch (nat_lit 18) (.branch (nat_lit 16) (.leaf (nat_lit 15, nat_lit 13, nat_lit 1, nat_lit 29, nat_lit 1, nat_lit 1189, [nat_lit 0])) (.branch (nat_lit 17) (.leaf (nat_lit 1, nat_lit 16, nat_lit 4, nat_lit 0, nat_lit 0, nat_lit 0, [])) (.leaf (nat_lit 0, nat_lit 17, nat_lit 0, nat_lit 0, nat_lit 0, nat_lit 0, [])))) (.branch (nat_lit 22) (.branch (nat_lit 21) (.leaf (nat_lit 15, nat_lit 18, nat_lit 2, nat_lit 22, nat_lit 2, nat_lit 2039, [nat_lit 0])) (.leaf (nat_lit 1, nat_lit 21, nat_lit 4, nat_lit 1, nat_lit 0, nat_lit 0, []))) (.branch (nat_lit 23) (.leaf (nat_lit 1, nat_lit 22, nat_lit 0, nat_lit 2, nat_lit 0, nat_lit 0, [])) (.leaf (nat_lit 23, nat_lit 23, nat_lit 2, nat_lit 32, nat_lit 4083, nat_lit 50, [])))))) (.branch (nat_lit 39) (.branch (nat_lit 29) (.branch (nat_lit 27) (.leaf (nat_lit 0, nat_lit 26, nat_lit 0, nat_lit 0, nat_lit 0, nat_lit 0, [])) (.branch (nat_lit 28) (.leaf (nat_lit 2, nat_lit 27, nat_lit 0, nat_lit 3, nat_lit 0, nat_lit 0, [])) (.leaf (nat_lit 1, nat_lit 28, nat_lit 0, nat_lit 3, nat_lit 0, nat_lit 0, [])))) (.branch (nat_lit 35) (.branch (nat_lit 32) (.leaf (nat_lit 0, nat_lit 29, nat_lit 2, nat_lit 300, nat_lit 0, nat_lit 0, [])) (.leaf (nat_lit 9, nat_lit 32, nat_lit 3, nat_lit 79, nat_lit 0, nat_lit 0, []))) (.branch (nat_lit 36) (.leaf (nat_lit 1, nat_lit 35, nat_lit 4, nat_lit 1, nat_lit 0, nat_lit 0, [])) (.leaf (nat_lit 14, nat_lit 36, nat_lit 5, nat_lit 38, nat_lit 4, nat_lit 1045, []))))) (.branch (nat_lit 83) (.branch (nat_lit 79) (.leaf (nat_lit 8, nat_lit 39, nat_lit 0, nat_lit 79, nat_lit 0, nat_lit 0, [])) (.branch (nat_lit 80) (.leaf (nat_lit 1, nat_lit 79, nat_lit 4, nat_lit 0, nat_lit 0, nat_lit 0, [])) (.leaf (nat_lit 14, nat_lit 80, nat_lit 2, nat_lit 22, nat_lit 2, nat_lit 2039, [])))) (.branch (nat_lit 94) (.branch (nat_lit 93) (.leaf (nat_lit 8, nat_lit 83, nat_lit 0, nat_lit 93, nat_lit 0, nat_lit 0, [])) (.leaf (nat_lit 0, nat_lit 93, nat_lit 0, nat_lit 1, nat_lit 0, nat_lit 0, []))) (.branch (nat_lit 98) (.leaf (nat_lit 10, nat_lit 94, nat_lit 0, nat_lit 98, nat_lit 0, nat_lit 0, [])) (.leaf (nat_lit 24, nat_lit 98, nat_lit 1, nat_lit 0, nat_lit 0, nat_lit 0, []))))))), [nat_lit 4082, nat_lit 1008, nat_lit 4080, nat_lit 4081])
set_option maxRecDepth 100000 in
def q_M33 : qM × List Nat := ((yX3_init, cX3_init, nat_lit 1, none, nat_lit 3, nat_lit 1, nat_lit 0, nat_lit 19, nat_lit 1055, .branch (nat_lit 27) (.branch (nat_lit 12) (.branch (nat_lit 5) (.branch (nat_lit 1) (.leaf (nat_lit 1, nat_lit 0, nat_lit 4, nat_lit 0, nat_lit 0, nat_lit 0, [])) (.branch (nat_lit 4) (.leaf (nat_lit 25, nat_lit 1, nat_lit 0, nat_lit 3, nat_lit 0, nat_lit 1081, [nat_lit 1026, nat_lit 1027])) (.leaf (nat_lit 1, nat_lit 4, nat_lit 4, nat_lit 0, nat_lit 0, nat_lit 0, [])))) (.branch (nat_lit 8) (.leaf (nat_lit 22, nat_lit 5, nat_lit 8, nat_lit 9, nat_lit 10831004, nat_lit 1082, [nat_lit 0, nat_lit 0, nat_lit 0, nat_lit 0, nat_lit 0, nat_lit 0, nat_lit 0, nat_lit 3, nat_lit 3, nat_lit 3, nat_lit 3, nat_lit 3, nat_lit 3, nat_lit 3, nat_lit 3, nat_lit 3, nat_lit 3, nat_lit 3, nat_lit 3])) (.branch (nat_lit 9) (.leaf (nat_lit 13, nat_lit 8, nat_lit 0, nat_lit 0, nat_lit 0, nat_lit 0, [])) (.leaf (nat_lit 23, nat_lit 9, nat_lit 1, nat_lit 11, nat_lit 1084, nat_lit 77, []))))) (.branch (nat_lit 18) (.branch (nat_lit 15) (.leaf (nat_lit 15, nat_lit 12, nat_lit 3, nat_lit 12, nat_lit 0, nat_lit 1218, [nat_lit 3])) (.branch (nat_lit 16) (.leaf (nat_lit 1, nat_lit 15, nat_lit 4, nat_lit 0, nat_lit 0, nat_lit 0, [])) (.leaf (nat_lit 0, nat_lit 16, nat_lit 1, nat_lit 96, nat_lit 0, nat_lit 0, [])))) (.branch (nat_lit 23) (.branch (nat_lit 20) (.leaf (nat_lit 16, nat_lit 18, nat_lit 0, nat_lit 0, nat_lit 0, nat_lit 1178, [])) (.leaf (nat_lit 15, nat_lit 20, nat_lit 3, nat_lit 18, nat_lit 1, nat_lit 1222, [nat_lit 3]))) (.branch (nat_lit 24) (.leaf (nat_lit 1, nat_lit 23, nat_lit 4, nat_lit 0, nat_lit 0, nat_lit 0, [])) (.leaf (nat_lit 22, nat_lit 24, nat_lit 1, nat_lit 22, nat_lit 11801005, nat_lit 1179, [nat_lit 0, nat_lit 0, nat_lit 3, nat_lit 3, nat_lit 3, nat_lit 3])))))) (.branch (nat_lit 40) (.branch (nat_lit 34) (.branch (nat_lit 28) (.leaf (nat_lit 13, nat_lit 27, nat_lit 0, nat_lit 0, nat_lit 0, nat_lit 0, [])) (.branch (nat_lit 31) (.leaf (nat_lit 23, nat_lit 28, nat_lit 1, nat_lit 24, nat_lit 1181, nat_lit 20, [])) (.leaf (nat_lit 15, nat_lit 31, nat_lit 3, nat_lit 25, nat_lit 2, nat_lit 1226, [nat_lit 3])))) (.branch (nat_lit 36) (.branch (nat_lit 35) (.leaf (nat_lit 1, nat_lit 34, nat_lit 4, nat_lit 0, nat_lit 0, nat_lit 0, [])) (.leaf (nat_lit 0, nat_lit 35, nat_lit 0, nat_lit 0, nat_lit 0, nat_lit 0, []))) (.branch (nat_lit 39) (.leaf (nat_lit 15, nat_lit 36, nat_lit 3, nat_lit 29, nat_lit 3, nat_lit 1229, [nat_lit 1])) (.leaf (nat_lit 1, nat_lit 39, nat_lit 4, nat_lit 0, nat_lit 0, nat_lit 0, []))))) (.branch (nat_lit 45) (.branch (nat_lit 41) (.leaf (nat_lit 0, nat_lit 40, nat_lit 0, nat_lit 0, nat_lit 0, nat_lit 0, [])) (.branch (nat_lit 44) (.leaf (nat_lit 15, nat_lit 41, nat_lit 3, nat_lit 33, nat_lit 4, nat_lit 1231, [nat_lit 0])) (.leaf (nat_lit 1, nat_lit 44, nat_lit 4, nat_lit 0, nat_lit 0, nat_lit 0, [])))) (.branch (nat_lit 49) (.branch (nat_lit 48) (.leaf (nat_lit 14, nat_lit 45, nat_lit 3, nat_lit 18, nat_lit 1, nat_lit 1222, [])) (.leaf (nat_lit 0, nat_lit 48, nat_lit 0, nat_lit 1, nat_lit 1, nat_lit 0, []))) (.branch (nat_lit 52) (.leaf (nat_lit 23, nat_lit 49, nat_lit 0, nat_lit 37, nat_lit 1215, nat_lit 321, [])) (.leaf (nat_lit 24, nat_lit 52, nat_lit 0, nat_lit 0, nat_lit 0, nat_lit 0, []))))))), [nat_lit 1080, nat_lit 1003, nat_lit 1079, nat_lit 0])
set_option maxRecDepth 100000 in
def q_M34 : qM × List Nat := ((yX3_copyFrom, cX3_copyFrom, nat_lit 2, none, nat_lit 3, nat_lit 2, nat_lit 1, nat_lit 0, nat_lit 0, .branch (nat_lit 26) (.branch (nat_lit 12) (.branch (nat_lit 5) (.branch (nat_lit 1) (.leaf (nat_lit 1, nat_lit 0, nat_lit 4, nat_lit 0, nat_lit 0, nat_lit 0, [])) (.branch (nat_lit 4) (.leaf (nat_lit 14, nat_lit 1, nat_lit 3, nat_lit 12, nat_lit 0, nat_lit 1218, [])) (.leaf (nat_lit 1, nat_lit 4, nat_lit 4, nat_lit 1, nat_lit 0, nat_lit 0, [])))) (.branch (nat_lit 8) (.leaf (nat_lit 14, nat_lit 5, nat_lit 3, nat_lit 12, nat_lit 0, nat_lit 1218, [])) (.branch (nat_lit 11) (.leaf (nat_lit 23, nat_lit 8, nat_lit 2, nat_lit 43, nat_lit 4065, nat_lit 79, [])) (.leaf (nat_lit 1, nat_lit 11, nat_lit 4, nat_lit 1, nat_lit 0, nat_lit 0, []))))) (.branch (nat_lit 17) (.branch (nat_lit 15) (.leaf (nat_lit 14, nat_lit 12, nat_lit 3, nat_lit 18, nat_lit 1, nat_lit 1222, [])) (.branch (nat_lit 16) (.leaf (nat_lit 0, nat_lit 15, nat_lit 0, nat_lit 0, nat_lit 0, nat_lit 0, [])) (.leaf (nat_lit 1, nat_lit 16, nat_lit 4, nat_lit 0, nat_lit 0, nat_lit 0, [])))) (.branch (nat_lit 21) (.branch (nat_lit 20) (.leaf (nat_lit 14, nat_lit 17, nat_lit 3, nat_lit 18, nat_lit 1, nat_lit 1222, [])) (.leaf (nat_lit 0, nat_lit 20, nat_lit 0, nat_lit 0, nat_lit 0, nat_lit 0, []))) (.branch (nat_lit 23) (.leaf (nat_lit 0, nat_lit 21, nat_lit 1, nat_lit 96, nat_lit 0, nat_lit 0, [])) (.leaf (nat_lit 26, nat_lit 23, nat_lit 0, nat_lit 47, nat_lit 0, nat_lit 6089, [nat_lit 3096, nat_lit 3095, nat_lit 1014])))))) (.branch (nat_lit 39) (.branch (nat_lit 31) (.branch (nat_lit 27) (.leaf (nat_lit 1, nat_lit 26, nat_lit 4, nat_lit 0, nat_lit 0, nat_lit 0, [])) (.branch (nat_lit 30) (.leaf (nat_lit 14, nat_lit 27, nat_lit 3, nat_lit 25, nat_lit 2, nat_lit 1226, [])) (.leaf (nat_lit 1, nat_lit 30, nat_lit 4, nat_lit 1, nat_lit 0, nat_lit 0, [])))) (.branch (nat_lit 37) (.branch (nat_lit 34) (.leaf (nat_lit 14, nat_lit 31, nat_lit 3, nat_lit 25, nat_lit 2, nat_lit 1226, [])) (.leaf (nat_lit 23, nat_lit 34, nat_lit 2, nat_lit 53, nat_lit 6090, nat_lit 21, []))) (.branch (nat_lit 38) (.leaf (nat_lit 1, nat_lit 37, nat_lit 4, nat_lit 0, nat_lit 0, nat_lit 0, [])) (.leaf (nat_lit 1, nat_lit 38, nat_lit 4, nat_lit 1, nat_lit 0, nat_lit 0, []))))) (.branch (nat_lit 46) (.branch (nat_lit 42) (.leaf (nat_lit 14, nat_lit 39, nat_lit 3, nat_lit 29, nat_lit 3, nat_lit 1229, [])) (.branch (nat_lit 45) (.leaf (nat_lit 15, nat_lit 42, nat_lit 3, nat_lit 29, nat_lit 3, nat_lit 1229, [nat_lit 1])) (.leaf (nat_lit 1, nat_lit 45, nat_lit 4, nat_lit 0, nat_lit 0, nat_lit 0, [])))) (.branch (nat_lit 50) (.branch (nat_lit 47) (.leaf (nat_lit 1, nat_lit 46, nat_lit 4, nat_lit 1, nat_lit 0, nat_lit 0, [])) (.leaf (nat_lit 14, nat_lit 47, nat_lit 3, nat_lit 33, nat_lit 4, nat_lit 1231, []))) (.branch (nat_lit 53) (.leaf (nat_lit 15, nat_lit 50, nat_lit 3, nat_lit 33, nat_lit 4, nat_lit 1231, [nat_lit 0])) (.leaf (nat_lit 24, nat_lit 53, nat_lit 0, nat_lit 0, nat_lit 0, nat_lit 0, []))))))), [nat_lit 6088, nat_lit 1003, nat_lit 6086, nat_lit 6087])
set_option maxRecDepth 100000 in
def q_M36 : qM × List Nat := ((yX3_countNotes, cX3_countNotes, nat_lit 3, some .int, nat_lit 3, nat_lit 2, nat_lit 0, nat_lit 0, nat_lit 0, .branch (nat_lit 5) (.branch (nat_lit 2) (.branch (nat_lit 1) (.leaf (nat_lit 0, nat_lit 0, nat_lit 0, nat_lit 0, nat_lit 0, nat_lit 0, [])) (.leaf (nat_lit 2, nat_lit 1, nat_lit 0, nat_lit 1, nat_lit 0, nat_lit 0, []))) (.branch (nat_lit 3) (.leaf (nat_lit 0, nat_lit 2, nat_lit 0, nat_lit 0, nat_lit 0, nat_lit 0, [])) (.branch (nat_lit 4) (.leaf (nat_lit 2, nat_lit 3, nat_lit 0, nat_lit 2, nat_lit 0, nat_lit 0, [])) (.leaf (nat_lit 1, nat_lit 4, nat_lit 0, nat_lit 2, nat_lit 0, nat_lit 0, []))))) (.branch (nat_lit 12) (.branch (nat_lit 6) (.leaf (nat_lit 1, nat_lit 5, nat_lit 4, nat_lit 0, nat_lit 0, nat_lit 0, [])) (.branch (nat_lit 9) (.leaf (nat_lit 14, nat_lit 6, nat_lit 3, nat_lit 12, nat_lit 0, nat_lit 1218, [])) (.leaf (nat_lit 14, nat_lit 9, nat_lit 8, nat_lit 56, nat_lit 2, nat_lit 1100, [])))) (.branch (nat_lit 34) (.leaf (nat_lit 9, nat_lit 12, nat_lit 3, nat_lit 34, nat_lit 0, nat_lit 0, [])) (.branch (nat_lit 35) (.leaf (nat_lit 1, nat_lit 34, nat_lit 0, nat_lit 1, nat_lit 0, nat_lit 0, [])) (.leaf (nat_lit 24, nat_lit 35, nat_lit 1, nat_lit 0, nat_lit 0, nat_lit 0, [])))))), [nat_lit 4155, nat_lit 1003, nat_lit 4153, nat_lit 4154])
set_option maxRecDepth 100000 in
def q_M37 : qM × List Nat := ((yX3_isOath, cX3_isOath, nat_lit 3, some .boolean, nat_lit 3, nat_lit 2, nat_lit 2, nat_lit 0, nat_lit 0, .branch (nat_lit 3) (.branch (nat_lit 1) (.leaf (nat_lit 1, nat_lit 0, nat_lit 4, nat_lit 0, nat_lit 0, nat_lit 0, [])) (.branch (nat_lit 2) (.leaf (nat_lit 1, nat_lit 1, nat_lit 0, nat_lit 1, nat_lit 0, nat_lit 0, [])) (.leaf (nat_lit 1, nat_lit 2, nat_lit 0, nat_lit 2, nat_lit 0, nat_lit 0, [])))) (.branch (nat_lit 4) (.leaf (nat_lit 0, nat_lit 3, nat_lit 0, nat_lit 1, nat_lit 1, nat_lit 0, [])) (.branch (nat_lit 7) (.leaf (nat_lit 23, nat_lit 4, nat_lit 2, nat_lit 59, nat_lit 5172, nat_lit 39, [])) (.leaf (nat_lit 24, nat_lit 7, nat_lit 1, nat_lit 0, nat_lit 0, nat_lit 0, []))))), [nat_lit 5171, nat_lit 1003, nat_lit 5169, nat_lit 5170])
set_option maxRecDepth 100000 in
def q_M39 : qM × List Nat := ((yX3_isExplained, cX3_isExplained, nat_lit 6, some .boolean, nat_lit 3, nat_lit 2, nat_lit 3, nat_lit 0, nat_lit 0, .branch (nat_lit 8) (.branch (nat_lit 3) (.branch (nat_lit 1) (.leaf (nat_lit 1, nat_lit 0, nat_lit 0, nat_lit 2, nat_lit 0, nat_lit 0, [])) (.leaf (nat_lit 2, nat_lit 1, nat_lit 1, nat_lit 4, nat_lit 0, nat_lit 0, []))) (.branch (nat_lit 4) (.leaf (nat_lit 0, nat_lit 3, nat_lit 0, nat_lit 0, nat_lit 0, nat_lit 0, [])) (.branch (nat_lit 6) (.leaf (nat_lit 2, nat_lit 4, nat_lit 1, nat_lit 5, nat_lit 0, nat_lit 0, [])) (.leaf (nat_lit 1, nat_lit 6, nat_lit 1, nat_lit 5, nat_lit 0, nat_lit 0, []))))) (.branch (nat_lit 15) (.branch (nat_lit 9) (.leaf (nat_lit 1, nat_lit 8, nat_lit 4, nat_lit 0, nat_lit 0, nat_lit 0, [])) (.branch (nat_lit 12) (.leaf (nat_lit 14, nat_lit 9, nat_lit 3, nat_lit 12, nat_lit 0, nat_lit 1218, [])) (.leaf (nat_lit 14, nat_lit 12, nat_lit 8, nat_lit 56, nat_lit 2, nat_lit 1100, [])))) (.branch (nat_lit 69) (.leaf (nat_lit 9, nat_lit 15, nat_lit 3, nat_lit 69, nat_lit 0, nat_lit 0, [])) (.branch (nat_lit 70) (.leaf (nat_lit 0, nat_lit 69, nat_lit 0, nat_lit 1, nat_lit 0, nat_lit 0, [])) (.leaf (nat_lit 24, nat_lit 70, nat_lit 1, nat_lit 0, nat_lit 0, nat_lit 0, [])))))), [nat_lit 5175, nat_lit 1003, nat_lit 5174, nat_lit 37])
set_option maxRecDepth 100000 in
def q_M40 : qM × List Nat := ((yX4_init, cX4_init, nat_lit 1, none, nat_lit 4, nat_lit 1, nat_lit 0, nat_lit 3, nat_lit 4288, .branch (nat_lit 22) (.branch (nat_lit 12) (.branch (nat_lit 5) (.branch (nat_lit 1) (.leaf (nat_lit 1, nat_lit 0, nat_lit 4, nat_lit 0, nat_lit 0, nat_lit 0, [])) (.branch (nat_lit 4) (.leaf (nat_lit 25, nat_lit 1, nat_lit 0, nat_lit 3, nat_lit 0, nat_lit 2111, [nat_lit 1026, nat_lit 1027])) (.leaf (nat_lit 1, nat_lit 4, nat_lit 4, nat_lit 0, nat_lit 0, nat_lit 0, [])))) (.branch (nat_lit 7) (.leaf (nat_lit 0, nat_lit 5, nat_lit 1, nat_lit 96, nat_lit 0, nat_lit 0, [])) (.branch (nat_lit 9) (.leaf (nat_lit 16, nat_lit 7, nat_lit 0, nat_lit 0, nat_lit 0, nat_lit 1178, [])) (.leaf (nat_lit 15, nat_lit 9, nat_lit 4, nat_lit 9, nat_lit 0, nat_lit 2112, [nat_lit 3]))))) (.branch (nat_lit 17) (.branch (nat_lit 13) (.leaf (nat_lit 1, nat_lit 12, nat_lit 4, nat_lit 0, nat_lit 0, nat_lit 0, [])) (.branch (nat_lit 15) (.leaf (nat_lit 0, nat_lit 13, nat_lit 1, nat_lit 96, nat_lit 0, nat_lit 0, [])) (.leaf (nat_lit 16, nat_lit 15, nat_lit 0, nat_lit 0, nat_lit 0, nat_lit 1178, [])))) (.branch (nat_lit 20) (.leaf (nat_lit 15, nat_lit 17, nat_lit 4, nat_lit 15, nat_lit 1, nat_lit 2113, [nat_lit 3])) (.branch (nat_lit 21) (.leaf (nat_lit 1, nat_lit 20, nat_lit 4, nat_lit 0, nat_lit 0, nat_lit 0, [])) (.leaf (nat_lit 0, nat_lit 21, nat_lit 0, nat_lit 0, nat_lit 0, nat_lit 0, [])))))) (.branch (nat_lit 35) (.branch (nat_lit 29) (.branch (nat_lit 25) (.leaf (nat_lit 15, nat_lit 22, nat_lit 4, nat_lit 18, nat_lit 2, nat_lit 2114, [nat_lit 0])) (.branch (nat_lit 26) (.leaf (nat_lit 1, nat_lit 25, nat_lit 4, nat_lit 0, nat_lit 0, nat_lit 0, [])) (.leaf (nat_lit 0, nat_lit 26, nat_lit 2, nat_lit 4096, nat_lit 0, nat_lit 0, [])))) (.branch (nat_lit 31) (.leaf (nat_lit 16, nat_lit 29, nat_lit 0, nat_lit 0, nat_lit 0, nat_lit 1178, [])) (.branch (nat_lit 34) (.leaf (nat_lit 15, nat_lit 31, nat_lit 4, nat_lit 22, nat_lit 3, nat_lit 2115, [nat_lit 3])) (.leaf (nat_lit 1, nat_lit 34, nat_lit 4, nat_lit 0, nat_lit 0, nat_lit 0, []))))) (.branch (nat_lit 40) (.branch (nat_lit 36) (.leaf (nat_lit 0, nat_lit 35, nat_lit 0, nat_lit 0, nat_lit 0, nat_lit 0, [])) (.branch (nat_lit 39) (.leaf (nat_lit 15, nat_lit 36, nat_lit 4, nat_lit 25, nat_lit 4, nat_lit 2116, [nat_lit 0])) (.leaf (nat_lit 1, nat_lit 39, nat_lit 4, nat_lit 0, nat_lit 0, nat_lit 0, [])))) (.branch (nat_lit 41) (.leaf (nat_lit 0, nat_lit 40, nat_lit 0, nat_lit 1, nat_lit 1, nat_lit 0, [])) (.branch (nat_lit 44) (.leaf (nat_lit 15, nat_lit 41, nat_lit 4, nat_lit 28, nat_lit 5, nat_lit 2118, [nat_lit 0])) (.leaf (nat_lit 24, nat_lit 44, nat_lit 0, nat_lit 0, nat_lit 0, nat_lit 0, []))))))), [nat_lit 2110, nat_lit 1010, nat_lit 2109, nat_lit 0])
set_option maxRecDepth 100000 in
def q_M41 : qM × List Nat := ((yX4_plan, cX4_plan, nat_lit 5, none, nat_lit 4, nat_lit 2, nat_lit 1, nat_lit 0, nat_lit 0, .branch (nat_lit 36) (.branch (nat_lit 16) (.branch (nat_lit 10) (.branch (nat_lit 4) (.branch (nat_lit 1) (.leaf (nat_lit 1, nat_lit 0, nat_lit 4, nat_lit 1, nat_lit 0, nat_lit 0, [])) (.leaf (nat_lit 14, nat_lit 1, nat_lit 0, nat_lit 31, nat_lit 10, nat_lit 2070, []))) (.branch (nat_lit 6) (.leaf (nat_lit 0, nat_lit 4, nat_lit 1, nat_lit 12, nat_lit 0, nat_lit 0, [])) (.branch (nat_lit 9) (.leaf (nat_lit 23, nat_lit 6, nat_lit 0, nat_lit 36, nat_lit 5128, nat_lit 318, [])) (.leaf (nat_lit 2, nat_lit 9, nat_lit 0, nat_lit 2, nat_lit 0, nat_lit 0, []))))) (.branch (nat_lit 13) (.branch (nat_lit 11) (.leaf (nat_lit 0, nat_lit 10, nat_lit 0, nat_lit 1, nat_lit 0, nat_lit 0, [])) (.branch (nat_lit 12) (.leaf (nat_lit 1, nat_lit 11, nat_lit 0, nat_lit 2, nat_lit 0, nat_lit 0, [])) (.leaf (nat_lit 4, nat_lit 12, nat_lit 6, nat_lit 0, nat_lit 0, nat_lit 0, [])))) (.branch (nat_lit 14) (.leaf (nat_lit 0, nat_lit 13, nat_lit 0, nat_lit 1, nat_lit 0, nat_lit 0, [])) (.branch (nat_lit 15) (.leaf (nat_lit 4, nat_lit 14, nat_lit 1, nat_lit 0, nat_lit 0, nat_lit 0, [])) (.leaf (nat_lit 2, nat_lit 15, nat_lit 0, nat_lit 3, nat_lit 0, nat_lit 0, [])))))) (.branch (nat_lit 24) (.branch (nat_lit 19) (.branch (nat_lit 17) (.leaf (nat_lit 1, nat_lit 16, nat_lit 4, nat_lit 0, nat_lit 0, nat_lit 0, [])) (.branch (nat_lit 18) (.leaf (nat_lit 1, nat_lit 17, nat_lit 4, nat_lit 1, nat_lit 0, nat_lit 0, [])) (.leaf (nat_lit 1, nat_lit 18, nat_lit 0, nat_lit 2, nat_lit 0, nat_lit 0, [])))) (.branch (nat_lit 22) (.leaf (nat_lit 23, nat_lit 19, nat_lit 2, nat_lit 42, nat_lit 5129, nat_lit 42, [])) (.branch (nat_lit 23) (.leaf (nat_lit 1, nat_lit 22, nat_lit 4, nat_lit 0, nat_lit 0, nat_lit 0, [])) (.leaf (nat_lit 1, nat_lit 23, nat_lit 4, nat_lit 1, nat_lit 0, nat_lit 0, []))))) (.branch (nat_lit 31) (.branch (nat_lit 27) (.leaf (nat_lit 23, nat_lit 24, nat_lit 2, nat_lit 46, nat_lit 5135, nat_lit 2, [])) (.branch (nat_lit 28) (.leaf (nat_lit 1, nat_lit 27, nat_lit 0, nat_lit 3, nat_lit 0, nat_lit 0, [])) (.leaf (nat_lit 23, nat_lit 28, nat_lit 2, nat_lit 50, nat_lit 5143, nat_lit 43, [])))) (.branch (nat_lit 32) (.leaf (nat_lit 0, nat_lit 31, nat_lit 0, nat_lit 1, nat_lit 0, nat_lit 0, [])) (.branch (nat_lit 34) (.leaf (nat_lit 2, nat_lit 32, nat_lit 1, nat_lit 4, nat_lit 0, nat_lit 0, [])) (.leaf (nat_lit 1, nat_lit 34, nat_lit 1, nat_lit 4, nat_lit 0, nat_lit 0, []))))))) (.branch (nat_lit 59) (.branch (nat_lit 46) (.branch (nat_lit 40) (.branch (nat_lit 37) (.leaf (nat_lit 1, nat_lit 36, nat_lit 0, nat_lit 3, nat_lit 0, nat_lit 0, [])) (.leaf (nat_lit 9, nat_lit 37, nat_lit 4, nat_lit 59, nat_lit 0, nat_lit 0, []))) (.branch (nat_lit 41) (.leaf (nat_lit 1, nat_lit 40, nat_lit 4, nat_lit 0, nat_lit 0, nat_lit 0, [])) (.branch (nat_lit 44) (.leaf (nat_lit 14, nat_lit 41, nat_lit 4, nat_lit 22, nat_lit 3, nat_lit 2115, [])) (.leaf (nat_lit 1, nat_lit 44, nat_lit 1, nat_lit 4, nat_lit 0, nat_lit 0, []))))) (.branch (nat_lit 52) (.branch (nat_lit 47) (.leaf (nat_lit 1, nat_lit 46, nat_lit 4, nat_lit 0, nat_lit 0, nat_lit 0, [])) (.branch (nat_lit 49) (.leaf (nat_lit 1, nat_lit 47, nat_lit 1, nat_lit 4, nat_lit 0, nat_lit 0, [])) (.leaf (nat_lit 23, nat_lit 49, nat_lit 2, nat_lit 54, nat_lit 5151, nat_lit 46, [])))) (.branch (nat_lit 53) (.leaf (nat_lit 21, nat_lit 52, nat_lit 0, nat_lit 0, nat_lit 0, nat_lit 0, [])) (.branch (nat_lit 56) (.leaf (nat_lit 3, nat_lit 53, nat_lit 0, nat_lit 4, nat_lit 1, nat_lit 0, [])) (.leaf (nat_lit 10, nat_lit 56, nat_lit 0, nat_lit 34, nat_lit 0, nat_lit 0, [])))))) (.branch (nat_lit 69) (.branch (nat_lit 64) (.branch (nat_lit 60) (.leaf (nat_lit 1, nat_lit 59, nat_lit 4, nat_lit 0, nat_lit 0, nat_lit 0, [])) (.branch (nat_lit 61) (.leaf (nat_lit 1, nat_lit 60, nat_lit 4, nat_lit 0, nat_lit 0, nat_lit 0, [])) (.leaf (nat_lit 14, nat_lit 61, nat_lit 4, nat_lit 22, nat_lit 3, nat_lit 2115, [])))) (.branch (nat_lit 65) (.leaf (nat_lit 1, nat_lit 64, nat_lit 0, nat_lit 3, nat_lit 0, nat_lit 0, [])) (.branch (nat_lit 66) (.leaf (nat_lit 20, nat_lit 65, nat_lit 0, nat_lit 0, nat_lit 0, nat_lit 0, [])) (.leaf (nat_lit 15, nat_lit 66, nat_lit 4, nat_lit 25, nat_lit 4, nat_lit 2116, [nat_lit 0]))))) (.branch (nat_lit 72) (.branch (nat_lit 70) (.leaf (nat_lit 1, nat_lit 69, nat_lit 4, nat_lit 0, nat_lit 0, nat_lit 0, [])) (.branch (nat_lit 71) (.leaf (nat_lit 1, nat_lit 70, nat_lit 4, nat_lit 0, nat_lit 0, nat_lit 0, [])) (.leaf (nat_lit 1, nat_lit 71, nat_lit 0, nat_lit 3, nat_lit 0, nat_lit 0, [])))) (.branch (nat_lit 75) (.leaf (nat_lit 23, nat_lit 72, nat_lit 2, nat_lit 58, nat_lit 5160, nat_lit 47, [])) (.branch (nat_lit 78) (.leaf (nat_lit 15, nat_lit 75, nat_lit 4, nat_lit 28, nat_lit 5, nat_lit 2118, [nat_lit 0])) (.leaf (nat_lit 24, nat_lit 78, nat_lit 0, nat_lit 0, nat_lit 0, nat_lit 0, [])))))))), [nat_lit 5127, nat_lit 1010, nat_lit 5125, nat_lit 5126])
set_option maxRecDepth 100000 in
def q_M42 : qM × List Nat := ((yX4_gather, cX4_gather, nat_lit 5, none, nat_lit 4, nat_lit 2, nat_lit 2, nat_lit 0, nat_lit 0, .branch (nat_lit 16) (.branch (nat_lit 9) (.branch (nat_lit 4) (.branch (nat_lit 1) (.leaf (nat_lit 1, nat_lit 0, nat_lit 4, nat_lit 0, nat_lit 0, nat_lit 0, [])) (.leaf (nat_lit 14, nat_lit 1, nat_lit 4, nat_lit 9, nat_lit 0, nat_lit 2112, []))) (.branch (nat_lit 5) (.leaf (nat_lit 0, nat_lit 4, nat_lit 0, nat_lit 0, nat_lit 0, nat_lit 0, [])) (.branch (nat_lit 8) (.leaf (nat_lit 23, nat_lit 5, nat_lit 0, nat_lit 61, nat_lit 5133, nat_lit 321, [])) (.leaf (nat_lit 0, nat_lit 8, nat_lit 0, nat_lit 0, nat_lit 0, nat_lit 0, []))))) (.branch (nat_lit 11) (.branch (nat_lit 10) (.leaf (nat_lit 2, nat_lit 9, nat_lit 0, nat_lit 3, nat_lit 0, nat_lit 0, [])) (.leaf (nat_lit 1, nat_lit 10, nat_lit 0, nat_lit 3, nat_lit 0, nat_lit 0, []))) (.branch (nat_lit 12) (.leaf (nat_lit 1, nat_lit 11, nat_lit 0, nat_lit 2, nat_lit 0, nat_lit 0, [])) (.branch (nat_lit 15) (.leaf (nat_lit 9, nat_lit 12, nat_lit 3, nat_lit 66, nat_lit 0, nat_lit 0, [])) (.leaf (nat_lit 1, nat_lit 15, nat_lit 4, nat_lit 1, nat_lit 0, nat_lit 0, [])))))) (.branch (nat_lit 25) (.branch (nat_lit 20) (.branch (nat_lit 17) (.leaf (nat_lit 1, nat_lit 16, nat_lit 0, nat_lit 3, nat_lit 0, nat_lit 0, [])) (.leaf (nat_lit 23, nat_lit 17, nat_lit 2, nat_lit 67, nat_lit 5134, nat_lit 16, []))) (.branch (nat_lit 21) (.leaf (nat_lit 0, nat_lit 20, nat_lit 0, nat_lit 0, nat_lit 0, nat_lit 0, [])) (.branch (nat_lit 23) (.leaf (nat_lit 2, nat_lit 21, nat_lit 1, nat_lit 4, nat_lit 0, nat_lit 0, [])) (.leaf (nat_lit 1, nat_lit 23, nat_lit 1, nat_lit 4, nat_lit 0, nat_lit 0, []))))) (.branch (nat_lit 60) (.branch (nat_lit 26) (.leaf (nat_lit 1, nat_lit 25, nat_lit 4, nat_lit 1, nat_lit 0, nat_lit 0, [])) (.branch (nat_lit 29) (.leaf (nat_lit 23, nat_lit 26, nat_lit 2, nat_lit 46, nat_lit 5135, nat_lit 2, [])) (.leaf (nat_lit 9, nat_lit 29, nat_lit 3, nat_lit 60, nat_lit 0, nat_lit 0, [])))) (.branch (nat_lit 63) (.leaf (nat_lit 3, nat_lit 60, nat_lit 0, nat_lit 3, nat_lit 1, nat_lit 0, [])) (.branch (nat_lit 66) (.leaf (nat_lit 10, nat_lit 63, nat_lit 0, nat_lit 10, nat_lit 0, nat_lit 0, [])) (.leaf (nat_lit 24, nat_lit 66, nat_lit 0, nat_lit 0, nat_lit 0, nat_lit 0, []))))))), [nat_lit 5132, nat_lit 1010, nat_lit 5131, nat_lit 31])
set_option maxRecDepth 100000 in
def q_M43 : qM × List Nat := ((yX4_chooseStones, cX4_chooseStones, nat_lit 4, none, nat_lit 4, nat_lit 2, nat_lit 2, nat_lit 0, nat_lit 0, .branch (nat_lit 6) (.branch (nat_lit 2) (.branch (nat_lit 1) (.leaf (nat_lit 1, nat_lit 0, nat_lit 4, nat_lit 0, nat_lit 0, nat_lit 0, [])) (.leaf (nat_lit 0, nat_lit 1, nat_lit 0, nat_lit 0, nat_lit 0, nat_lit 0, []))) (.branch (nat_lit 5) (.leaf (nat_lit 15, nat_lit 2, nat_lit 4, nat_lit 18, nat_lit 2, nat_lit 2114, [nat_lit 0])) (.leaf (nat_lit 0, nat_lit 5, nat_lit 0, nat_lit 0, nat_lit 0, nat_lit 0, [])))) (.branch (nat_lit 8) (.branch (nat_lit 7) (.leaf (nat_lit 2, nat_lit 6, nat_lit 0, nat_lit 3, nat_lit 0, nat_lit 0, [])) (.leaf (nat_lit 1, nat_lit 7, nat_lit 0, nat_lit 3, nat_lit 0, nat_lit 0, []))) (.branch (nat_lit 9) (.leaf (nat_lit 1, nat_lit 8, nat_lit 0, nat_lit 1, nat_lit 0, nat_lit 0, [])) (.branch (nat_lit 71) (.leaf (nat_lit 9, nat_lit 9, nat_lit 3, nat_lit 71, nat_lit 0, nat_lit 0, [])) (.leaf (nat_lit 24, nat_lit 71, nat_lit 0, nat_lit 0, nat_lit 0, nat_lit 0, [])))))), [nat_lit 5146, nat_lit 1010, nat_lit 5145, nat_lit 32])
set_option maxRecDepth 100000 in
def q_M46 : qM × List Nat := ((yX4_fewestFor, cX4_fewestFor, nat_lit 5, some .int, nat_lit 4, nat_lit 2, nat_lit 1, nat_lit 0, nat_lit 0, .branch (nat_lit 5) (.branch (nat_lit 2) (.branch (nat_lit 1) (.leaf (nat_lit 0, nat_lit 0, nat_lit 0, nat_lit 0, nat_lit 0, nat_lit 0, [])) (.leaf (nat_lit 2, nat_lit 1, nat_lit 0, nat_lit 2, nat_lit 0, nat_lit 0, []))) (.branch (nat_lit 3) (.leaf (nat_lit 0, nat_lit 2, nat_lit 0, nat_lit 0, nat_lit 0, nat_lit 0, [])) (.branch (nat_lit 4) (.leaf (nat_lit 2, nat_lit 3, nat_lit 0, nat_lit 3, nat_lit 0, nat_lit 0, [])) (.leaf (nat_lit 1, nat_lit 4, nat_lit 0, nat_lit 3, nat_lit 0, nat_lit 0, []))))) (.branch (nat_lit 9) (.branch (nat_lit 6) (.leaf (nat_lit 1, nat_lit 5, nat_lit 4, nat_lit 0, nat_lit 0, nat_lit 0, [])) (.leaf (nat_lit 14, nat_lit 6, nat_lit 4, nat_lit 18, nat_lit 2, nat_lit 2114, []))) (.branch (nat_lit 50) (.leaf (nat_lit 9, nat_lit 9, nat_lit 3, nat_lit 50, nat_lit 0, nat_lit 0, [])) (.branch (nat_lit 51) (.leaf (nat_lit 1, nat_lit 50, nat_lit 0, nat_lit 2, nat_lit 0, nat_lit 0, [])) (.leaf (nat_lit 24, nat_lit 51, nat_lit 1, nat_lit 0, nat_lit 0, nat_lit 0, [])))))), [nat_lit 5154, nat_lit 1010, nat_lit 5153, nat_lit 34])
set_option maxRecDepth 100000 in
def q_M47 : qM × List Nat := ((yX4_bestFor, cX4_bestFor, nat_lit 3, some .int, nat_lit 4, nat_lit 2, nat_lit 1, nat_lit 0, nat_lit 0, .branch (nat_lit 4) (.branch (nat_lit 2) (.branch (nat_lit 1) (.leaf (nat_lit 0, nat_lit 0, nat_lit 0, nat_lit 0, nat_lit 0, nat_lit 0, [])) (.leaf (nat_lit 2, nat_lit 1, nat_lit 0, nat_lit 2, nat_lit 0, nat_lit 0, []))) (.branch (nat_lit 3) (.leaf (nat_lit 1, nat_lit 2, nat_lit 0, nat_lit 2, nat_lit 0, nat_lit 0, [])) (.leaf (nat_lit 1, nat_lit 3, nat_lit 4, nat_lit 0, nat_lit 0, nat_lit 0, [])))) (.branch (nat_lit 43) (.branch (nat_lit 7) (.leaf (nat_lit 14, nat_lit 4, nat_lit 4, nat_lit 18, nat_lit 2, nat_lit 2114, [])) (.leaf (nat_lit 9, nat_lit 7, nat_lit 3, nat_lit 43, nat_lit 0, nat_lit 0, []))) (.branch (nat_lit 44) (.leaf (nat_lit 0, nat_lit 43, nat_lit 0, nat_lit 1, nat_lit 1, nat_lit 0, [])) (.leaf (nat_lit 24, nat_lit 44, nat_lit 1, nat_lit 0, nat_lit 0, nat_lit 0, []))))), [nat_lit 5163, nat_lit 1010, nat_lit 5162, nat_lit 36])
set_option maxRecDepth 100000 in
def q_M48 : qM × List Nat := ((yX5_init, cX5_init, nat_lit 1, none, nat_lit 5, nat_lit 1, nat_lit 0, nat_lit 1, nat_lit 900, .branch (nat_lit 30) (.branch (nat_lit 15) (.branch (nat_lit 8) (.branch (nat_lit 4) (.branch (nat_lit 1) (.leaf (nat_lit 1, nat_lit 0, nat_lit 4, nat_lit 0, nat_lit 0, nat_lit 0, [])) (.leaf (nat_lit 25, nat_lit 1, nat_lit 0, nat_lit 3, nat_lit 0, nat_lit 1035, [nat_lit 1026, nat_lit 1027]))) (.branch (nat_lit 5) (.leaf (nat_lit 1, nat_lit 4, nat_lit 4, nat_lit 0, nat_lit 0, nat_lit 0, [])) (.leaf (nat_lit 0, nat_lit 5, nat_lit 2, nat_lit 900, nat_lit 0, nat_lit 0, [])))) (.branch (nat_lit 13) (.branch (nat_lit 10) (.leaf (nat_lit 16, nat_lit 8, nat_lit 1, nat_lit 0, nat_lit 0, nat_lit 1075, [])) (.leaf (nat_lit 15, nat_lit 10, nat_lit 5, nat_lit 9, nat_lit 0, nat_lit 1036, [nat_lit 3]))) (.branch (nat_lit 14) (.leaf (nat_lit 1, nat_lit 13, nat_lit 4, nat_lit 0, nat_lit 0, nat_lit 0, [])) (.leaf (nat_lit 0, nat_lit 14, nat_lit 0, nat_lit 0, nat_lit 0, nat_lit 0, []))))) (.branch (nat_lit 23) (.branch (nat_lit 19) (.branch (nat_lit 18) (.leaf (nat_lit 15, nat_lit 15, nat_lit 5, nat_lit 15, nat_lit 1, nat_lit 1038, [nat_lit 0])) (.leaf (nat_lit 1, nat_lit 18, nat_lit 4, nat_lit 0, nat_lit 0, nat_lit 0, []))) (.branch (nat_lit 20) (.leaf (nat_lit 0, nat_lit 19, nat_lit 0, nat_lit 1, nat_lit 1, nat_lit 0, [])) (.leaf (nat_lit 15, nat_lit 20, nat_lit 5, nat_lit 19, nat_lit 2, nat_lit 1040, [nat_lit 0])))) (.branch (nat_lit 25) (.branch (nat_lit 24) (.leaf (nat_lit 1, nat_lit 23, nat_lit 4, nat_lit 0, nat_lit 0, nat_lit 0, [])) (.leaf (nat_lit 0, nat_lit 24, nat_lit 0, nat_lit 1, nat_lit 1, nat_lit 0, []))) (.branch (nat_lit 28) (.leaf (nat_lit 15, nat_lit 25, nat_lit 5, nat_lit 22, nat_lit 3, nat_lit 1042, [nat_lit 0])) (.branch (nat_lit 29) (.leaf (nat_lit 1, nat_lit 28, nat_lit 4, nat_lit 0, nat_lit 0, nat_lit 0, [])) (.leaf (nat_lit 0, nat_lit 29, nat_lit 0, nat_lit 0, nat_lit 0, nat_lit 0, []))))))) (.branch (nat_lit 44) (.branch (nat_lit 38) (.branch (nat_lit 34) (.branch (nat_lit 33) (.leaf (nat_lit 15, nat_lit 30, nat_lit 5, nat_lit 25, nat_lit 4, nat_lit 1044, [nat_lit 0])) (.leaf (nat_lit 1, nat_lit 33, nat_lit 4, nat_lit 0, nat_lit 0, nat_lit 0, []))) (.branch (nat_lit 35) (.leaf (nat_lit 0, nat_lit 34, nat_lit 0, nat_lit 0, nat_lit 0, nat_lit 0, [])) (.leaf (nat_lit 15, nat_lit 35, nat_lit 5, nat_lit 28, nat_lit 5, nat_lit 1047, [nat_lit 0])))) (.branch (nat_lit 40) (.branch (nat_lit 39) (.leaf (nat_lit 1, nat_lit 38, nat_lit 4, nat_lit 0, nat_lit 0, nat_lit 0, [])) (.leaf (nat_lit 0, nat_lit 39, nat_lit 0, nat_lit 0, nat_lit 0, nat_lit 0, []))) (.branch (nat_lit 43) (.leaf (nat_lit 15, nat_lit 40, nat_lit 5, nat_lit 31, nat_lit 6, nat_lit 1049, [nat_lit 0])) (.leaf (nat_lit 1, nat_lit 43, nat_lit 4, nat_lit 0, nat_lit 0, nat_lit 0, []))))) (.branch (nat_lit 50) (.branch (nat_lit 48) (.branch (nat_lit 45) (.leaf (nat_lit 0, nat_lit 44, nat_lit 0, nat_lit 0, nat_lit 0, nat_lit 0, [])) (.leaf (nat_lit 15, nat_lit 45, nat_lit 5, nat_lit 34, nat_lit 7, nat_lit 1051, [nat_lit 0]))) (.branch (nat_lit 49) (.leaf (nat_lit 1, nat_lit 48, nat_lit 4, nat_lit 0, nat_lit 0, nat_lit 0, [])) (.leaf (nat_lit 0, nat_lit 49, nat_lit 0, nat_lit 0, nat_lit 0, nat_lit 0, [])))) (.branch (nat_lit 54) (.branch (nat_lit 53) (.leaf (nat_lit 15, nat_lit 50, nat_lit 5, nat_lit 37, nat_lit 8, nat_lit 1052, [nat_lit 0])) (.leaf (nat_lit 1, nat_lit 53, nat_lit 4, nat_lit 0, nat_lit 0, nat_lit 0, []))) (.branch (nat_lit 55) (.leaf (nat_lit 0, nat_lit 54, nat_lit 0, nat_lit 0, nat_lit 0, nat_lit 0, [])) (.branch (nat_lit 58) (.leaf (nat_lit 15, nat_lit 55, nat_lit 5, nat_lit 40, nat_lit 9, nat_lit 1053, [nat_lit 0])) (.leaf (nat_lit 24, nat_lit 58, nat_lit 0, nat_lit 0, nat_lit 0, nat_lit 0, [])))))))), [nat_lit 1034, nat_lit 1002, nat_lit 1033, nat_lit 0])
set_option maxRecDepth 100000 in
def q_M49 : qM × List Nat := ((yX5_append, cX5_append, nat_lit 3, none, nat_lit 5, nat_lit 2, nat_lit 1, nat_lit 0, nat_lit 0, .branch (nat_lit 26) (.branch (nat_lit 11) (.branch (nat_lit 4) (.branch (nat_lit 2) (.leaf (nat_lit 0, nat_lit 0, nat_lit 1, nat_lit 24, nat_lit 0, nat_lit 0, [])) (.branch (nat_lit 3) (.leaf (nat_lit 2, nat_lit 2, nat_lit 0, nat_lit 2, nat_lit 0, nat_lit 0, [])) (.leaf (nat_lit 1, nat_lit 3, nat_lit 0, nat_lit 2, nat_lit 0, nat_lit 0, [])))) (.branch (nat_lit 7) (.leaf (nat_lit 8, nat_lit 4, nat_lit 2, nat_lit 46, nat_lit 0, nat_lit 0, [])) (.branch (nat_lit 8) (.leaf (nat_lit 1, nat_lit 7, nat_lit 4, nat_lit 0, nat_lit 0, nat_lit 0, [])) (.leaf (nat_lit 14, nat_lit 8, nat_lit 5, nat_lit 15, nat_lit 1, nat_lit 1038, []))))) (.branch (nat_lit 18) (.branch (nat_lit 14) (.leaf (nat_lit 0, nat_lit 11, nat_lit 2, nat_lit 900, nat_lit 0, nat_lit 0, [])) (.branch (nat_lit 17) (.leaf (nat_lit 9, nat_lit 14, nat_lit 3, nat_lit 40, nat_lit 0, nat_lit 0, [])) (.leaf (nat_lit 1, nat_lit 17, nat_lit 4, nat_lit 0, nat_lit 0, nat_lit 0, [])))) (.branch (nat_lit 22) (.branch (nat_lit 21) (.leaf (nat_lit 14, nat_lit 18, nat_lit 5, nat_lit 9, nat_lit 0, nat_lit 1036, [])) (.leaf (nat_lit 1, nat_lit 21, nat_lit 4, nat_lit 0, nat_lit 0, nat_lit 0, []))) (.branch (nat_lit 25) (.leaf (nat_lit 14, nat_lit 22, nat_lit 5, nat_lit 15, nat_lit 1, nat_lit 1038, [])) (.leaf (nat_lit 1, nat_lit 25, nat_lit 0, nat_lit 1, nat_lit 0, nat_lit 0, [])))))) (.branch (nat_lit 32) (.branch (nat_lit 29) (.branch (nat_lit 27) (.leaf (nat_lit 1, nat_lit 26, nat_lit 0, nat_lit 2, nat_lit 0, nat_lit 0, [])) (.branch (nat_lit 28) (.leaf (nat_lit 4, nat_lit 27, nat_lit 7, nat_lit 0, nat_lit 0, nat_lit 0, [])) (.leaf (nat_lit 6, nat_lit 28, nat_lit 2, nat_lit 0, nat_lit 0, nat_lit 0, [])))) (.branch (nat_lit 30) (.leaf (nat_lit 21, nat_lit 29, nat_lit 1, nat_lit 0, nat_lit 0, nat_lit 0, [])) (.branch (nat_lit 31) (.leaf (nat_lit 1, nat_lit 30, nat_lit 4, nat_lit 0, nat_lit 0, nat_lit 0, [])) (.leaf (nat_lit 13, nat_lit 31, nat_lit 0, nat_lit 0, nat_lit 0, nat_lit 0, []))))) (.branch (nat_lit 37) (.branch (nat_lit 35) (.leaf (nat_lit 14, nat_lit 32, nat_lit 5, nat_lit 15, nat_lit 1, nat_lit 1038, [])) (.branch (nat_lit 36) (.leaf (nat_lit 0, nat_lit 35, nat_lit 0, nat_lit 1, nat_lit 0, nat_lit 0, [])) (.leaf (nat_lit 4, nat_lit 36, nat_lit 0, nat_lit 0, nat_lit 0, nat_lit 0, [])))) (.branch (nat_lit 43) (.branch (nat_lit 40) (.leaf (nat_lit 15, nat_lit 37, nat_lit 5, nat_lit 15, nat_lit 1, nat_lit 1038, [nat_lit 0])) (.leaf (nat_lit 3, nat_lit 40, nat_lit 1, nat_lit 2, nat_lit 8, nat_lit 0, []))) (.branch (nat_lit 46) (.leaf (nat_lit 10, nat_lit 43, nat_lit 0, nat_lit 3, nat_lit 0, nat_lit 0, [])) (.leaf (nat_lit 24, nat_lit 46, nat_lit 0, nat_lit 0, nat_lit 0, nat_lit 0, []))))))), [nat_lit 3104, nat_lit 1002, nat_lit 3102, nat_lit 3103])
set_option maxRecDepth 100000 in
def q_M50 : qM × List Nat := ((yX5_begin, cX5_begin, nat_lit 2, none, nat_lit 5, nat_lit 2, nat_lit 1, nat_lit 0, nat_lit 0, .branch (nat_lit 17) (.branch (nat_lit 6) (.branch (nat_lit 2) (.branch (nat_lit 1) (.leaf (nat_lit 1, nat_lit 0, nat_lit 4, nat_lit 0, nat_lit 0, nat_lit 0, [])) (.leaf (nat_lit 1, nat_lit 1, nat_lit 0, nat_lit 1, nat_lit 0, nat_lit 0, []))) (.branch (nat_lit 3) (.leaf (nat_lit 1, nat_lit 2, nat_lit 4, nat_lit 0, nat_lit 0, nat_lit 0, [])) (.leaf (nat_lit 14, nat_lit 3, nat_lit 5, nat_lit 15, nat_lit 1, nat_lit 1038, [])))) (.branch (nat_lit 12) (.branch (nat_lit 9) (.leaf (nat_lit 23, nat_lit 6, nat_lit 0, nat_lit 43, nat_lit 3122, nat_lit 318, [])) (.leaf (nat_lit 15, nat_lit 9, nat_lit 5, nat_lit 34, nat_lit 7, nat_lit 1051, [nat_lit 0]))) (.branch (nat_lit 13) (.leaf (nat_lit 1, nat_lit 12, nat_lit 4, nat_lit 0, nat_lit 0, nat_lit 0, [])) (.branch (nat_lit 14) (.leaf (nat_lit 0, nat_lit 13, nat_lit 0, nat_lit 0, nat_lit 0, nat_lit 0, [])) (.leaf (nat_lit 15, nat_lit 14, nat_lit 5, nat_lit 31, nat_lit 6, nat_lit 1049, [nat_lit 0])))))) (.branch (nat_lit 23) (.branch (nat_lit 19) (.branch (nat_lit 18) (.leaf (nat_lit 1, nat_lit 17, nat_lit 4, nat_lit 0, nat_lit 0, nat_lit 0, [])) (.leaf (nat_lit 0, nat_lit 18, nat_lit 0, nat_lit 0, nat_lit 0, nat_lit 0, []))) (.branch (nat_lit 22) (.leaf (nat_lit 15, nat_lit 19, nat_lit 5, nat_lit 19, nat_lit 2, nat_lit 1040, [nat_lit 0])) (.leaf (nat_lit 1, nat_lit 22, nat_lit 4, nat_lit 0, nat_lit 0, nat_lit 0, [])))) (.branch (nat_lit 27) (.branch (nat_lit 24) (.leaf (nat_lit 0, nat_lit 23, nat_lit 0, nat_lit 1, nat_lit 1, nat_lit 0, [])) (.leaf (nat_lit 15, nat_lit 24, nat_lit 5, nat_lit 22, nat_lit 3, nat_lit 1042, [nat_lit 0]))) (.branch (nat_lit 28) (.leaf (nat_lit 1, nat_lit 27, nat_lit 4, nat_lit 0, nat_lit 0, nat_lit 0, [])) (.branch (nat_lit 31) (.leaf (nat_lit 23, nat_lit 28, nat_lit 2, nat_lit 49, nat_lit 3125, nat_lit 51, [])) (.leaf (nat_lit 24, nat_lit 31, nat_lit 0, nat_lit 0, nat_lit 0, nat_lit 0, []))))))), [nat_lit 3121, nat_lit 1002, nat_lit 3119, nat_lit 3120])
set_option maxRecDepth 100000 in
def q_M51 : qM × List Nat := ((yX5_advance, cX5_advance, nat_lit 1, none, nat_lit 5, nat_lit 2, nat_lit 0, nat_lit 0, nat_lit 0, .branch (nat_lit 60) (.branch (nat_lit 8) (.branch (nat_lit 4) (.branch (nat_lit 1) (.leaf (nat_lit 1, nat_lit 0, nat_lit 4, nat_lit 0, nat_lit 0, nat_lit 0, [])) (.leaf (nat_lit 14, nat_lit 1, nat_lit 5, nat_lit 31, nat_lit 6, nat_lit 1049, []))) (.branch (nat_lit 5) (.leaf (nat_lit 1, nat_lit 4, nat_lit 4, nat_lit 0, nat_lit 0, nat_lit 0, [])) (.leaf (nat_lit 14, nat_lit 5, nat_lit 5, nat_lit 34, nat_lit 7, nat_lit 1051, [])))) (.branch (nat_lit 53) (.branch (nat_lit 52) (.leaf (nat_lit 9, nat_lit 8, nat_lit 3, nat_lit 52, nat_lit 0, nat_lit 0, [])) (.leaf (nat_lit 1, nat_lit 52, nat_lit 4, nat_lit 0, nat_lit 0, nat_lit 0, []))) (.branch (nat_lit 54) (.leaf (nat_lit 1, nat_lit 53, nat_lit 4, nat_lit 0, nat_lit 0, nat_lit 0, [])) (.branch (nat_lit 57) (.leaf (nat_lit 14, nat_lit 54, nat_lit 5, nat_lit 31, nat_lit 6, nat_lit 1049, [])) (.leaf (nat_lit 15, nat_lit 57, nat_lit 5, nat_lit 28, nat_lit 5, nat_lit 1047, [nat_lit 0])))))) (.branch (nat_lit 71) (.branch (nat_lit 64) (.branch (nat_lit 61) (.leaf (nat_lit 1, nat_lit 60, nat_lit 4, nat_lit 0, nat_lit 0, nat_lit 0, [])) (.leaf (nat_lit 14, nat_lit 61, nat_lit 5, nat_lit 31, nat_lit 6, nat_lit 1049, []))) (.branch (nat_lit 65) (.leaf (nat_lit 1, nat_lit 64, nat_lit 4, nat_lit 0, nat_lit 0, nat_lit 0, [])) (.branch (nat_lit 68) (.leaf (nat_lit 14, nat_lit 65, nat_lit 5, nat_lit 34, nat_lit 7, nat_lit 1051, [])) (.leaf (nat_lit 9, nat_lit 68, nat_lit 2, nat_lit 79, nat_lit 0, nat_lit 0, []))))) (.branch (nat_lit 73) (.branch (nat_lit 72) (.leaf (nat_lit 1, nat_lit 71, nat_lit 4, nat_lit 0, nat_lit 0, nat_lit 0, [])) (.leaf (nat_lit 0, nat_lit 72, nat_lit 0, nat_lit 0, nat_lit 0, nat_lit 0, []))) (.branch (nat_lit 76) (.leaf (nat_lit 15, nat_lit 73, nat_lit 5, nat_lit 25, nat_lit 4, nat_lit 1044, [nat_lit 0])) (.branch (nat_lit 92) (.leaf (nat_lit 10, nat_lit 76, nat_lit 0, nat_lit 92, nat_lit 0, nat_lit 0, [])) (.leaf (nat_lit 24, nat_lit 92, nat_lit 0, nat_lit 0, nat_lit 0, nat_lit 0, []))))))), [nat_lit 3128, nat_lit 1002, nat_lit 3126, nat_lit 3127])
set_option maxRecDepth 100000 in
def q_M53 : qM × List Nat := ((yX5_isWord, cX5_isWord, nat_lit 3, some .boolean, nat_lit 5, nat_lit 2, nat_lit 1, nat_lit 0, nat_lit 0, .branch (nat_lit 5) (.branch (nat_lit 1) (.leaf (nat_lit 1, nat_lit 0, nat_lit 4, nat_lit 0, nat_lit 0, nat_lit 0, [])) (.branch (nat_lit 4) (.leaf (nat_lit 14, nat_lit 1, nat_lit 5, nat_lit 25, nat_lit 4, nat_lit 1044, [])) (.leaf (nat_lit 0, nat_lit 4, nat_lit 0, nat_lit 2, nat_lit 0, nat_lit 0, [])))) (.branch (nat_lit 24) (.leaf (nat_lit 9, nat_lit 5, nat_lit 1, nat_lit 24, nat_lit 0, nat_lit 0, [])) (.branch (nat_lit 25) (.leaf (nat_lit 0, nat_lit 24, nat_lit 0, nat_lit 0, nat_lit 0, nat_lit 0, [])) (.leaf (nat_lit 24, nat_lit 25, nat_lit 1, nat_lit 0, nat_lit 0, nat_lit 0, []))))), [nat_lit 3145, nat_lit 1002, nat_lit 3143, nat_lit 3144])
set_option maxRecDepth 100000 in
def q_M57 : qM × List Nat := ((yX5_faultAt, cX5_faultAt, nat_lit 3, some .boolean, nat_lit 5, nat_lit 2, nat_lit 2, nat_lit 0, nat_lit 0, .branch (nat_lit 6) (.branch (nat_lit 2) (.branch (nat_lit 1) (.leaf (nat_lit 1, nat_lit 0, nat_lit 4, nat_lit 0, nat_lit 0, nat_lit 0, [])) (.leaf (nat_lit 1, nat_lit 1, nat_lit 0, nat_lit 1, nat_lit 0, nat_lit 0, []))) (.branch (nat_lit 5) (.leaf (nat_lit 15, nat_lit 2, nat_lit 5, nat_lit 19, nat_lit 2, nat_lit 1040, [nat_lit 0])) (.leaf (nat_lit 1, nat_lit 5, nat_lit 4, nat_lit 0, nat_lit 0, nat_lit 0, [])))) (.branch (nat_lit 10) (.branch (nat_lit 7) (.leaf (nat_lit 1, nat_lit 6, nat_lit 0, nat_lit 2, nat_lit 0, nat_lit 0, [])) (.leaf (nat_lit 15, nat_lit 7, nat_lit 5, nat_lit 22, nat_lit 3, nat_lit 1042, [nat_lit 0]))) (.branch (nat_lit 11) (.leaf (nat_lit 0, nat_lit 10, nat_lit 0, nat_lit 0, nat_lit 0, nat_lit 0, [])) (.leaf (nat_lit 24, nat_lit 11, nat_lit 1, nat_lit 0, nat_lit 0, nat_lit 0, []))))), [nat_lit 3201, nat_lit 1002, nat_lit 3199, nat_lit 3200])
set_option maxRecDepth 100000 in
def q_M59 : qM × List Nat := ((yX5_misplaced, cX5_misplaced, nat_lit 1, some .boolean, nat_lit 5, nat_lit 2, nat_lit 0, nat_lit 0, nat_lit 0, .branch (nat_lit 13) (.branch (nat_lit 2) (.branch (nat_lit 1) (.leaf (nat_lit 1, nat_lit 0, nat_lit 4, nat_lit 0, nat_lit 0, nat_lit 0, [])) (.leaf (nat_lit 1, nat_lit 1, nat_lit 4, nat_lit 0, nat_lit 0, nat_lit 0, []))) (.branch (nat_lit 5) (.leaf (nat_lit 14, nat_lit 2, nat_lit 5, nat_lit 25, nat_lit 4, nat_lit 1044, [])) (.branch (nat_lit 6) (.leaf (nat_lit 0, nat_lit 5, nat_lit 0, nat_lit 1, nat_lit 0, nat_lit 0, [])) (.leaf (nat_lit 9, nat_lit 6, nat_lit 1, nat_lit 13, nat_lit 0, nat_lit 0, []))))) (.branch (nat_lit 15) (.branch (nat_lit 14) (.leaf (nat_lit 0, nat_lit 13, nat_lit 0, nat_lit 2, nat_lit 0, nat_lit 0, [])) (.leaf (nat_lit 1, nat_lit 14, nat_lit 4, nat_lit 0, nat_lit 0, nat_lit 0, []))) (.branch (nat_lit 18) (.leaf (nat_lit 14, nat_lit 15, nat_lit 5, nat_lit 28, nat_lit 5, nat_lit 1047, [])) (.branch (nat_lit 21) (.leaf (nat_lit 23, nat_lit 18, nat_lit 2, nat_lit 71, nat_lit 3198, nat_lit 57, [])) (.leaf (nat_lit 24, nat_lit 21, nat_lit 1, nat_lit 0, nat_lit 0, nat_lit 0, [])))))), [nat_lit 3197, nat_lit 1002, nat_lit 3195, nat_lit 3196])
set_option maxRecDepth 100000 in
def q_M60 : qM × List Nat := ((yX5_takeWord, cX5_takeWord, nat_lit 2, some .boolean, nat_lit 5, nat_lit 2, nat_lit 1, nat_lit 0, nat_lit 0, .branch (nat_lit 5) (.branch (nat_lit 1) (.leaf (nat_lit 1, nat_lit 0, nat_lit 4, nat_lit 0, nat_lit 0, nat_lit 0, [])) (.branch (nat_lit 2) (.leaf (nat_lit 1, nat_lit 1, nat_lit 4, nat_lit 1, nat_lit 0, nat_lit 0, [])) (.leaf (nat_lit 23, nat_lit 2, nat_lit 2, nat_lit 75, nat_lit 3142, nat_lit 53, [])))) (.branch (nat_lit 9) (.branch (nat_lit 8) (.leaf (nat_lit 8, nat_lit 5, nat_lit 1, nat_lit 13, nat_lit 0, nat_lit 0, [])) (.leaf (nat_lit 1, nat_lit 8, nat_lit 4, nat_lit 0, nat_lit 0, nat_lit 0, []))) (.branch (nat_lit 12) (.leaf (nat_lit 23, nat_lit 9, nat_lit 2, nat_lit 79, nat_lit 3194, nat_lit 59, [])) (.leaf (nat_lit 24, nat_lit 12, nat_lit 1, nat_lit 0, nat_lit 0, nat_lit 0, []))))), [nat_lit 3141, nat_lit 1002, nat_lit 3139, nat_lit 3140])
set_option maxRecDepth 100000 in
def q_M64 : qM × List Nat := ((yX6_init, cX6_init, nat_lit 1, none, nat_lit 6, nat_lit 1, nat_lit 0, nat_lit 1, nat_lit 60, .branch (nat_lit 14) (.branch (nat_lit 7) (.branch (nat_lit 4) (.branch (nat_lit 1) (.leaf (nat_lit 1, nat_lit 0, nat_lit 4, nat_lit 0, nat_lit 0, nat_lit 0, [])) (.leaf (nat_lit 25, nat_lit 1, nat_lit 0, nat_lit 3, nat_lit 0, nat_lit 2188, [nat_lit 1026, nat_lit 1027]))) (.branch (nat_lit 5) (.leaf (nat_lit 1, nat_lit 4, nat_lit 4, nat_lit 0, nat_lit 0, nat_lit 0, [])) (.leaf (nat_lit 0, nat_lit 5, nat_lit 1, nat_lit 60, nat_lit 0, nat_lit 0, [])))) (.branch (nat_lit 12) (.branch (nat_lit 9) (.leaf (nat_lit 16, nat_lit 7, nat_lit 3, nat_lit 0, nat_lit 0, nat_lit 2206, [])) (.leaf (nat_lit 15, nat_lit 9, nat_lit 6, nat_lit 9, nat_lit 0, nat_lit 2189, [nat_lit 3]))) (.branch (nat_lit 13) (.leaf (nat_lit 1, nat_lit 12, nat_lit 4, nat_lit 0, nat_lit 0, nat_lit 0, [])) (.leaf (nat_lit 0, nat_lit 13, nat_lit 0, nat_lit 1, nat_lit 0, nat_lit 0, []))))) (.branch (nat_lit 22) (.branch (nat_lit 18) (.branch (nat_lit 17) (.leaf (nat_lit 15, nat_lit 14, nat_lit 6, nat_lit 15, nat_lit 1, nat_lit 2191, [nat_lit 1])) (.leaf (nat_lit 1, nat_lit 17, nat_lit 4, nat_lit 0, nat_lit 0, nat_lit 0, []))) (.branch (nat_lit 19) (.leaf (nat_lit 0, nat_lit 18, nat_lit 0, nat_lit 0, nat_lit 0, nat_lit 0, [])) (.leaf (nat_lit 15, nat_lit 19, nat_lit 6, nat_lit 19, nat_lit 2, nat_lit 2193, [nat_lit 0])))) (.branch (nat_lit 24) (.branch (nat_lit 23) (.leaf (nat_lit 1, nat_lit 22, nat_lit 4, nat_lit 0, nat_lit 0, nat_lit 0, [])) (.leaf (nat_lit 0, nat_lit 23, nat_lit 0, nat_lit 0, nat_lit 0, nat_lit 0, []))) (.branch (nat_lit 27) (.leaf (nat_lit 15, nat_lit 24, nat_lit 6, nat_lit 23, nat_lit 3, nat_lit 2195, [nat_lit 0])) (.leaf (nat_lit 24, nat_lit 27, nat_lit 0, nat_lit 0, nat_lit 0, nat_lit 0, [])))))), [nat_lit 2187, nat_lit 1012, nat_lit 2186, nat_lit 0])
set_option maxRecDepth 100000 in
def q_M65 : qM × List Nat := ((yX6_lay, cX6_lay, nat_lit 3, none, nat_lit 6, nat_lit 2, nat_lit 2, nat_lit 0, nat_lit 0, .branch (nat_lit 11) (.branch (nat_lit 5) (.branch (nat_lit 1) (.leaf (nat_lit 1, nat_lit 0, nat_lit 4, nat_lit 0, nat_lit 0, nat_lit 0, [])) (.branch (nat_lit 2) (.leaf (nat_lit 0, nat_lit 1, nat_lit 0, nat_lit 0, nat_lit 0, nat_lit 0, [])) (.leaf (nat_lit 15, nat_lit 2, nat_lit 6, nat_lit 15, nat_lit 1, nat_lit 2191, [nat_lit 1])))) (.branch (nat_lit 7) (.branch (nat_lit 6) (.leaf (nat_lit 1, nat_lit 5, nat_lit 4, nat_lit 0, nat_lit 0, nat_lit 0, [])) (.leaf (nat_lit 1, nat_lit 6, nat_lit 0, nat_lit 1, nat_lit 0, nat_lit 0, []))) (.branch (nat_lit 10) (.leaf (nat_lit 15, nat_lit 7, nat_lit 6, nat_lit 19, nat_lit 2, nat_lit 2193, [nat_lit 0])) (.leaf (nat_lit 1, nat_lit 10, nat_lit 4, nat_lit 0, nat_lit 0, nat_lit 0, []))))) (.branch (nat_lit 16) (.branch (nat_lit 12) (.leaf (nat_lit 1, nat_lit 11, nat_lit 0, nat_lit 2, nat_lit 0, nat_lit 0, [])) (.branch (nat_lit 15) (.leaf (nat_lit 15, nat_lit 12, nat_lit 6, nat_lit 23, nat_lit 3, nat_lit 2195, [nat_lit 0])) (.leaf (nat_lit 1, nat_lit 15, nat_lit 4, nat_lit 0, nat_lit 0, nat_lit 0, [])))) (.branch (nat_lit 20) (.branch (nat_lit 19) (.leaf (nat_lit 14, nat_lit 16, nat_lit 6, nat_lit 9, nat_lit 0, nat_lit 2189, [])) (.leaf (nat_lit 0, nat_lit 19, nat_lit 3, nat_lit 0, nat_lit 0, nat_lit 0, []))) (.branch (nat_lit 23) (.leaf (nat_lit 23, nat_lit 20, nat_lit 0, nat_lit 26, nat_lit 3056, nat_lit 320, [])) (.leaf (nat_lit 24, nat_lit 23, nat_lit 0, nat_lit 0, nat_lit 0, nat_lit 0, [])))))), [nat_lit 3055, nat_lit 1012, nat_lit 3053, nat_lit 3054])
set_option maxRecDepth 100000 in
def q_M69 : qM × List Nat := ((yX7_init, cX7_init, nat_lit 1, none, nat_lit 7, nat_lit 1, nat_lit 0, nat_lit 2, nat_lit 156, .branch (nat_lit 36) (.branch (nat_lit 20) (.branch (nat_lit 9) (.branch (nat_lit 4) (.branch (nat_lit 1) (.leaf (nat_lit 1, nat_lit 0, nat_lit 4, nat_lit 0, nat_lit 0, nat_lit 0, [])) (.leaf (nat_lit 25, nat_lit 1, nat_lit 0, nat_lit 3, nat_lit 0, nat_lit 2138, [nat_lit 1026, nat_lit 1027]))) (.branch (nat_lit 5) (.leaf (nat_lit 1, nat_lit 4, nat_lit 4, nat_lit 0, nat_lit 0, nat_lit 0, [])) (.branch (nat_lit 7) (.leaf (nat_lit 0, nat_lit 5, nat_lit 1, nat_lit 96, nat_lit 0, nat_lit 0, [])) (.leaf (nat_lit 16, nat_lit 7, nat_lit 0, nat_lit 0, nat_lit 0, nat_lit 1178, []))))) (.branch (nat_lit 13) (.branch (nat_lit 12) (.leaf (nat_lit 15, nat_lit 9, nat_lit 7, nat_lit 9, nat_lit 0, nat_lit 2139, [nat_lit 3])) (.leaf (nat_lit 1, nat_lit 12, nat_lit 4, nat_lit 0, nat_lit 0, nat_lit 0, []))) (.branch (nat_lit 15) (.leaf (nat_lit 0, nat_lit 13, nat_lit 1, nat_lit 60, nat_lit 0, nat_lit 0, [])) (.branch (nat_lit 17) (.leaf (nat_lit 16, nat_lit 15, nat_lit 0, nat_lit 0, nat_lit 0, nat_lit 1178, [])) (.leaf (nat_lit 15, nat_lit 17, nat_lit 7, nat_lit 17, nat_lit 1, nat_lit 2141, [nat_lit 3])))))) (.branch (nat_lit 27) (.branch (nat_lit 22) (.branch (nat_lit 21) (.leaf (nat_lit 1, nat_lit 20, nat_lit 4, nat_lit 0, nat_lit 0, nat_lit 0, [])) (.leaf (nat_lit 0, nat_lit 21, nat_lit 0, nat_lit 0, nat_lit 0, nat_lit 0, []))) (.branch (nat_lit 25) (.leaf (nat_lit 15, nat_lit 22, nat_lit 7, nat_lit 20, nat_lit 2, nat_lit 2142, [nat_lit 0])) (.branch (nat_lit 26) (.leaf (nat_lit 1, nat_lit 25, nat_lit 4, nat_lit 0, nat_lit 0, nat_lit 0, [])) (.leaf (nat_lit 0, nat_lit 26, nat_lit 0, nat_lit 0, nat_lit 0, nat_lit 0, []))))) (.branch (nat_lit 31) (.branch (nat_lit 30) (.leaf (nat_lit 15, nat_lit 27, nat_lit 7, nat_lit 24, nat_lit 3, nat_lit 2143, [nat_lit 0])) (.leaf (nat_lit 1, nat_lit 30, nat_lit 4, nat_lit 0, nat_lit 0, nat_lit 0, []))) (.branch (nat_lit 32) (.leaf (nat_lit 0, nat_lit 31, nat_lit 0, nat_lit 1, nat_lit 1, nat_lit 0, [])) (.branch (nat_lit 35) (.leaf (nat_lit 15, nat_lit 32, nat_lit 7, nat_lit 27, nat_lit 4, nat_lit 2144, [nat_lit 0])) (.leaf (nat_lit 1, nat_lit 35, nat_lit 4, nat_lit 0, nat_lit 0, nat_lit 0, []))))))) (.branch (nat_lit 52) (.branch (nat_lit 45) (.branch (nat_lit 40) (.branch (nat_lit 37) (.leaf (nat_lit 0, nat_lit 36, nat_lit 0, nat_lit 0, nat_lit 0, nat_lit 0, [])) (.leaf (nat_lit 15, nat_lit 37, nat_lit 7, nat_lit 30, nat_lit 5, nat_lit 2145, [nat_lit 0]))) (.branch (nat_lit 41) (.leaf (nat_lit 1, nat_lit 40, nat_lit 4, nat_lit 0, nat_lit 0, nat_lit 0, [])) (.branch (nat_lit 42) (.leaf (nat_lit 0, nat_lit 41, nat_lit 0, nat_lit 0, nat_lit 0, nat_lit 0, [])) (.leaf (nat_lit 15, nat_lit 42, nat_lit 7, nat_lit 33, nat_lit 6, nat_lit 2147, [nat_lit 1]))))) (.branch (nat_lit 47) (.branch (nat_lit 46) (.leaf (nat_lit 1, nat_lit 45, nat_lit 4, nat_lit 0, nat_lit 0, nat_lit 0, [])) (.leaf (nat_lit 0, nat_lit 46, nat_lit 0, nat_lit 0, nat_lit 0, nat_lit 0, []))) (.branch (nat_lit 50) (.leaf (nat_lit 15, nat_lit 47, nat_lit 7, nat_lit 37, nat_lit 7, nat_lit 2149, [nat_lit 0])) (.branch (nat_lit 51) (.leaf (nat_lit 1, nat_lit 50, nat_lit 4, nat_lit 0, nat_lit 0, nat_lit 0, [])) (.leaf (nat_lit 0, nat_lit 51, nat_lit 0, nat_lit 0, nat_lit 0, nat_lit 0, [])))))) (.branch (nat_lit 61) (.branch (nat_lit 56) (.branch (nat_lit 55) (.leaf (nat_lit 15, nat_lit 52, nat_lit 7, nat_lit 40, nat_lit 8, nat_lit 2151, [nat_lit 0])) (.leaf (nat_lit 1, nat_lit 55, nat_lit 4, nat_lit 0, nat_lit 0, nat_lit 0, []))) (.branch (nat_lit 57) (.leaf (nat_lit 0, nat_lit 56, nat_lit 0, nat_lit 0, nat_lit 0, nat_lit 0, [])) (.branch (nat_lit 60) (.leaf (nat_lit 15, nat_lit 57, nat_lit 7, nat_lit 43, nat_lit 9, nat_lit 2153, [nat_lit 0])) (.leaf (nat_lit 1, nat_lit 60, nat_lit 4, nat_lit 0, nat_lit 0, nat_lit 0, []))))) (.branch (nat_lit 66) (.branch (nat_lit 62) (.leaf (nat_lit 0, nat_lit 61, nat_lit 0, nat_lit 0, nat_lit 0, nat_lit 0, [])) (.branch (nat_lit 65) (.leaf (nat_lit 15, nat_lit 62, nat_lit 7, nat_lit 46, nat_lit 10, nat_lit 2155, [nat_lit 0])) (.leaf (nat_lit 1, nat_lit 65, nat_lit 4, nat_lit 0, nat_lit 0, nat_lit 0, [])))) (.branch (nat_lit 67) (.leaf (nat_lit 0, nat_lit 66, nat_lit 0, nat_lit 0, nat_lit 0, nat_lit 0, [])) (.branch (nat_lit 70) (.leaf (nat_lit 15, nat_lit 67, nat_lit 7, nat_lit 49, nat_lit 11, nat_lit 2157, [nat_lit 1])) (.leaf (nat_lit 24, nat_lit 70, nat_lit 0, nat_lit 0, nat_lit 0, nat_lit 0, [])))))))), [nat_lit 2137, nat_lit 1011, nat_lit 2136, nat_lit 0])
set_option maxRecDepth 100000 in
def q_M77 : qM × List Nat := ((yX8_init, cX8_init, nat_lit 1, none, nat_lit 8, nat_lit 1, nat_lit 0, nat_lit 12, nat_lit 694, .branch (nat_lit 63) (.branch (nat_lit 31) (.branch (nat_lit 16) (.branch (nat_lit 7) (.branch (nat_lit 4) (.branch (nat_lit 1) (.leaf (nat_lit 1, nat_lit 0, nat_lit 4, nat_lit 0, nat_lit 0, nat_lit 0, [])) (.leaf (nat_lit 25, nat_lit 1, nat_lit 0, nat_lit 3, nat_lit 0, nat_lit 1087, [nat_lit 1026, nat_lit 1027]))) (.branch (nat_lit 5) (.leaf (nat_lit 1, nat_lit 4, nat_lit 4, nat_lit 0, nat_lit 0, nat_lit 0, [])) (.leaf (nat_lit 0, nat_lit 5, nat_lit 1, nat_lit 7, nat_lit 0, nat_lit 0, [])))) (.branch (nat_lit 11) (.branch (nat_lit 10) (.leaf (nat_lit 15, nat_lit 7, nat_lit 8, nat_lit 9, nat_lit 0, nat_lit 1088, [nat_lit 0])) (.leaf (nat_lit 1, nat_lit 10, nat_lit 4, nat_lit 0, nat_lit 0, nat_lit 0, []))) (.branch (nat_lit 12) (.leaf (nat_lit 0, nat_lit 11, nat_lit 0, nat_lit 1, nat_lit 0, nat_lit 0, [])) (.branch (nat_lit 15) (.leaf (nat_lit 15, nat_lit 12, nat_lit 8, nat_lit 15, nat_lit 1, nat_lit 1093, [nat_lit 0])) (.leaf (nat_lit 1, nat_lit 15, nat_lit 4, nat_lit 0, nat_lit 0, nat_lit 0, [])))))) (.branch (nat_lit 22) (.branch (nat_lit 20) (.branch (nat_lit 17) (.leaf (nat_lit 0, nat_lit 16, nat_lit 0, nat_lit 0, nat_lit 0, nat_lit 0, [])) (.leaf (nat_lit 15, nat_lit 17, nat_lit 8, nat_lit 18, nat_lit 2, nat_lit 1098, [nat_lit 0]))) (.branch (nat_lit 21) (.leaf (nat_lit 1, nat_lit 20, nat_lit 4, nat_lit 0, nat_lit 0, nat_lit 0, [])) (.leaf (nat_lit 0, nat_lit 21, nat_lit 0, nat_lit 0, nat_lit 0, nat_lit 0, [])))) (.branch (nat_lit 26) (.branch (nat_lit 25) (.leaf (nat_lit 15, nat_lit 22, nat_lit 8, nat_lit 21, nat_lit 3, nat_lit 1104, [nat_lit 0])) (.leaf (nat_lit 1, nat_lit 25, nat_lit 4, nat_lit 0, nat_lit 0, nat_lit 0, []))) (.branch (nat_lit 27) (.leaf (nat_lit 0, nat_lit 26, nat_lit 0, nat_lit 0, nat_lit 0, nat_lit 0, [])) (.branch (nat_lit 30) (.leaf (nat_lit 15, nat_lit 27, nat_lit 8, nat_lit 24, nat_lit 4, nat_lit 1107, [nat_lit 0])) (.leaf (nat_lit 1, nat_lit 30, nat_lit 4, nat_lit 0, nat_lit 0, nat_lit 0, []))))))) (.branch (nat_lit 48) (.branch (nat_lit 37) (.branch (nat_lit 35) (.branch (nat_lit 32) (.leaf (nat_lit 0, nat_lit 31, nat_lit 0, nat_lit 0, nat_lit 0, nat_lit 0, [])) (.leaf (nat_lit 15, nat_lit 32, nat_lit 8, nat_lit 27, nat_lit 5, nat_lit 1110, [nat_lit 0]))) (.branch (nat_lit 36) (.leaf (nat_lit 1, nat_lit 35, nat_lit 4, nat_lit 0, nat_lit 0, nat_lit 0, [])) (.leaf (nat_lit 0, nat_lit 36, nat_lit 0, nat_lit 0, nat_lit 0, nat_lit 0, [])))) (.branch (nat_lit 41) (.branch (nat_lit 40) (.leaf (nat_lit 15, nat_lit 37, nat_lit 8, nat_lit 30, nat_lit 6, nat_lit 1113, [nat_lit 0])) (.leaf (nat_lit 1, nat_lit 40, nat_lit 4, nat_lit 0, nat_lit 0, nat_lit 0, []))) (.branch (nat_lit 43) (.leaf (nat_lit 0, nat_lit 41, nat_lit 1, nat_lit 6, nat_lit 0, nat_lit 0, [])) (.branch (nat_lit 45) (.leaf (nat_lit 16, nat_lit 43, nat_lit 0, nat_lit 0, nat_lit 0, nat_lit 1178, [])) (.leaf (nat_lit 15, nat_lit 45, nat_lit 8, nat_lit 33, nat_lit 7, nat_lit 1116, [nat_lit 3])))))) (.branch (nat_lit 55) (.branch (nat_lit 50) (.branch (nat_lit 49) (.leaf (nat_lit 1, nat_lit 48, nat_lit 4, nat_lit 0, nat_lit 0, nat_lit 0, [])) (.leaf (nat_lit 0, nat_lit 49, nat_lit 0, nat_lit 4, nat_lit 0, nat_lit 0, []))) (.branch (nat_lit 52) (.leaf (nat_lit 16, nat_lit 50, nat_lit 0, nat_lit 0, nat_lit 0, nat_lit 1178, [])) (.leaf (nat_lit 15, nat_lit 52, nat_lit 8, nat_lit 37, nat_lit 8, nat_lit 1117, [nat_lit 3])))) (.branch (nat_lit 57) (.branch (nat_lit 56) (.leaf (nat_lit 1, nat_lit 55, nat_lit 4, nat_lit 0, nat_lit 0, nat_lit 0, [])) (.leaf (nat_lit 0, nat_lit 56, nat_lit 0, nat_lit 4, nat_lit 0, nat_lit 0, []))) (.branch (nat_lit 59) (.leaf (nat_lit 16, nat_lit 57, nat_lit 0, nat_lit 0, nat_lit 0, nat_lit 1178, [])) (.branch (nat_lit 62) (.leaf (nat_lit 15, nat_lit 59, nat_lit 8, nat_lit 40, nat_lit 9, nat_lit 1118, [nat_lit 3])) (.leaf (nat_lit 1, nat_lit 62, nat_lit 4, nat_lit 0, nat_lit 0, nat_lit 0, [])))))))) (.branch (nat_lit 97) (.branch (nat_lit 79) (.branch (nat_lit 70) (.branch (nat_lit 66) (.branch (nat_lit 64) (.leaf (nat_lit 0, nat_lit 63, nat_lit 0, nat_lit 4, nat_lit 0, nat_lit 0, [])) (.leaf (nat_lit 16, nat_lit 64, nat_lit 0, nat_lit 0, nat_lit 0, nat_lit 1178, []))) (.branch (nat_lit 69) (.leaf (nat_lit 15, nat_lit 66, nat_lit 8, nat_lit 43, nat_lit 10, nat_lit 1120, [nat_lit 3])) (.leaf (nat_lit 1, nat_lit 69, nat_lit 4, nat_lit 0, nat_lit 0, nat_lit 0, [])))) (.branch (nat_lit 73) (.branch (nat_lit 71) (.leaf (nat_lit 0, nat_lit 70, nat_lit 0, nat_lit 4, nat_lit 0, nat_lit 0, [])) (.leaf (nat_lit 16, nat_lit 71, nat_lit 0, nat_lit 0, nat_lit 0, nat_lit 1178, []))) (.branch (nat_lit 76) (.leaf (nat_lit 15, nat_lit 73, nat_lit 8, nat_lit 46, nat_lit 11, nat_lit 1122, [nat_lit 3])) (.branch (nat_lit 77) (.leaf (nat_lit 1, nat_lit 76, nat_lit 4, nat_lit 0, nat_lit 0, nat_lit 0, [])) (.leaf (nat_lit 0, nat_lit 77, nat_lit 1, nat_lit 96, nat_lit 0, nat_lit 0, [])))))) (.branch (nat_lit 87) (.branch (nat_lit 84) (.branch (nat_lit 81) (.leaf (nat_lit 16, nat_lit 79, nat_lit 0, nat_lit 0, nat_lit 0, nat_lit 1178, [])) (.leaf (nat_lit 15, nat_lit 81, nat_lit 8, nat_lit 49, nat_lit 12, nat_lit 1124, [nat_lit 3]))) (.branch (nat_lit 85) (.leaf (nat_lit 1, nat_lit 84, nat_lit 4, nat_lit 0, nat_lit 0, nat_lit 0, [])) (.leaf (nat_lit 0, nat_lit 85, nat_lit 1, nat_lit 96, nat_lit 0, nat_lit 0, [])))) (.branch (nat_lit 92) (.branch (nat_lit 89) (.leaf (nat_lit 16, nat_lit 87, nat_lit 0, nat_lit 0, nat_lit 0, nat_lit 1178, [])) (.leaf (nat_lit 15, nat_lit 89, nat_lit 8, nat_lit 52, nat_lit 13, nat_lit 1126, [nat_lit 3]))) (.branch (nat_lit 93) (.leaf (nat_lit 1, nat_lit 92, nat_lit 4, nat_lit 0, nat_lit 0, nat_lit 0, [])) (.branch (nat_lit 95) (.leaf (nat_lit 0, nat_lit 93, nat_lit 1, nat_lit 96, nat_lit 0, nat_lit 0, [])) (.leaf (nat_lit 16, nat_lit 95, nat_lit 0, nat_lit 0, nat_lit 0, nat_lit 1178, []))))))) (.branch (nat_lit 116) (.branch (nat_lit 105) (.branch (nat_lit 101) (.branch (nat_lit 100) (.leaf (nat_lit 15, nat_lit 97, nat_lit 8, nat_lit 55, nat_lit 14, nat_lit 1129, [nat_lit 3])) (.leaf (nat_lit 1, nat_lit 100, nat_lit 4, nat_lit 0, nat_lit 0, nat_lit 0, []))) (.branch (nat_lit 103) (.leaf (nat_lit 0, nat_lit 101, nat_lit 1, nat_lit 96, nat_lit 0, nat_lit 0, [])) (.leaf (nat_lit 16, nat_lit 103, nat_lit 0, nat_lit 0, nat_lit 0, nat_lit 1178, [])))) (.branch (nat_lit 109) (.branch (nat_lit 108) (.leaf (nat_lit 15, nat_lit 105, nat_lit 8, nat_lit 58, nat_lit 15, nat_lit 1131, [nat_lit 3])) (.leaf (nat_lit 1, nat_lit 108, nat_lit 4, nat_lit 0, nat_lit 0, nat_lit 0, []))) (.branch (nat_lit 111) (.leaf (nat_lit 0, nat_lit 109, nat_lit 1, nat_lit 96, nat_lit 0, nat_lit 0, [])) (.branch (nat_lit 113) (.leaf (nat_lit 16, nat_lit 111, nat_lit 0, nat_lit 0, nat_lit 0, nat_lit 1178, [])) (.leaf (nat_lit 15, nat_lit 113, nat_lit 8, nat_lit 61, nat_lit 16, nat_lit 1132, [nat_lit 3])))))) (.branch (nat_lit 124) (.branch (nat_lit 119) (.branch (nat_lit 117) (.leaf (nat_lit 1, nat_lit 116, nat_lit 4, nat_lit 0, nat_lit 0, nat_lit 0, [])) (.leaf (nat_lit 0, nat_lit 117, nat_lit 1, nat_lit 96, nat_lit 0, nat_lit 0, []))) (.branch (nat_lit 121) (.leaf (nat_lit 16, nat_lit 119, nat_lit 0, nat_lit 0, nat_lit 0, nat_lit 1178, [])) (.leaf (nat_lit 15, nat_lit 121, nat_lit 8, nat_lit 64, nat_lit 17, nat_lit 1135, [nat_lit 3])))) (.branch (nat_lit 127) (.branch (nat_lit 125) (.leaf (nat_lit 1, nat_lit 124, nat_lit 4, nat_lit 0, nat_lit 0, nat_lit 0, [])) (.leaf (nat_lit 0, nat_lit 125, nat_lit 1, nat_lit 96, nat_lit 0, nat_lit 0, []))) (.branch (nat_lit 129) (.leaf (nat_lit 16, nat_lit 127, nat_lit 0, nat_lit 0, nat_lit 0, nat_lit 1178, [])) (.branch (nat_lit 132) (.leaf (nat_lit 15, nat_lit 129, nat_lit 8, nat_lit 67, nat_lit 18, nat_lit 1137, [nat_lit 3])) (.leaf (nat_lit 24, nat_lit 132, nat_lit 0, nat_lit 0, nat_lit 0, nat_lit 0, []))))))))), [nat_lit 1086, nat_lit 1004, nat_lit 1085, nat_lit 0])
set_option maxRecDepth 100000 in
def q_M78 : qM × List Nat := ((yX8_wipe, cX8_wipe, nat_lit 1, none, nat_lit 8, nat_lit 2, nat_lit 0, nat_lit 0, nat_lit 0, .branch (nat_lit 20) (.branch (nat_lit 10) (.branch (nat_lit 5) (.branch (nat_lit 1) (.leaf (nat_lit 1, nat_lit 0, nat_lit 4, nat_lit 0, nat_lit 0, nat_lit 0, [])) (.branch (nat_lit 2) (.leaf (nat_lit 0, nat_lit 1, nat_lit 0, nat_lit 0, nat_lit 0, nat_lit 0, [])) (.leaf (nat_lit 15, nat_lit 2, nat_lit 8, nat_lit 18, nat_lit 2, nat_lit 1098, [nat_lit 0])))) (.branch (nat_lit 6) (.leaf (nat_lit 1, nat_lit 5, nat_lit 4, nat_lit 0, nat_lit 0, nat_lit 0, [])) (.branch (nat_lit 7) (.leaf (nat_lit 0, nat_lit 6, nat_lit 0, nat_lit 0, nat_lit 0, nat_lit 0, [])) (.leaf (nat_lit 15, nat_lit 7, nat_lit 8, nat_lit 21, nat_lit 3, nat_lit 1104, [nat_lit 0]))))) (.branch (nat_lit 15) (.branch (nat_lit 11) (.leaf (nat_lit 1, nat_lit 10, nat_lit 4, nat_lit 0, nat_lit 0, nat_lit 0, [])) (.branch (nat_lit 12) (.leaf (nat_lit 0, nat_lit 11, nat_lit 0, nat_lit 0, nat_lit 0, nat_lit 0, [])) (.leaf (nat_lit 15, nat_lit 12, nat_lit 8, nat_lit 24, nat_lit 4, nat_lit 1107, [nat_lit 0])))) (.branch (nat_lit 16) (.leaf (nat_lit 1, nat_lit 15, nat_lit 4, nat_lit 0, nat_lit 0, nat_lit 0, [])) (.branch (nat_lit 17) (.leaf (nat_lit 0, nat_lit 16, nat_lit 0, nat_lit 0, nat_lit 0, nat_lit 0, [])) (.leaf (nat_lit 15, nat_lit 17, nat_lit 8, nat_lit 27, nat_lit 5, nat_lit 1110, [nat_lit 0])))))) (.branch (nat_lit 30) (.branch (nat_lit 25) (.branch (nat_lit 21) (.leaf (nat_lit 1, nat_lit 20, nat_lit 4, nat_lit 0, nat_lit 0, nat_lit 0, [])) (.branch (nat_lit 22) (.leaf (nat_lit 0, nat_lit 21, nat_lit 0, nat_lit 0, nat_lit 0, nat_lit 0, [])) (.leaf (nat_lit 15, nat_lit 22, nat_lit 8, nat_lit 30, nat_lit 6, nat_lit 1113, [nat_lit 0])))) (.branch (nat_lit 26) (.leaf (nat_lit 1, nat_lit 25, nat_lit 4, nat_lit 0, nat_lit 0, nat_lit 0, [])) (.branch (nat_lit 29) (.leaf (nat_lit 14, nat_lit 26, nat_lit 8, nat_lit 58, nat_lit 15, nat_lit 1131, [])) (.leaf (nat_lit 0, nat_lit 29, nat_lit 0, nat_lit 0, nat_lit 0, nat_lit 0, []))))) (.branch (nat_lit 37) (.branch (nat_lit 33) (.leaf (nat_lit 23, nat_lit 30, nat_lit 0, nat_lit 70, nat_lit 3117, nat_lit 321, [])) (.branch (nat_lit 34) (.leaf (nat_lit 1, nat_lit 33, nat_lit 4, nat_lit 0, nat_lit 0, nat_lit 0, [])) (.leaf (nat_lit 14, nat_lit 34, nat_lit 8, nat_lit 61, nat_lit 16, nat_lit 1132, [])))) (.branch (nat_lit 38) (.leaf (nat_lit 0, nat_lit 37, nat_lit 0, nat_lit 1, nat_lit 1, nat_lit 0, [])) (.branch (nat_lit 41) (.leaf (nat_lit 23, nat_lit 38, nat_lit 0, nat_lit 70, nat_lit 3117, nat_lit 321, [])) (.leaf (nat_lit 24, nat_lit 41, nat_lit 0, nat_lit 0, nat_lit 0, nat_lit 0, []))))))), [nat_lit 3116, nat_lit 1004, nat_lit 3114, nat_lit 3115])
set_option maxRecDepth 100000 in
def q_M79 : qM × List Nat := ((yX8_copyFrom, cX8_copyFrom, nat_lit 2, none, nat_lit 8, nat_lit 2, nat_lit 1, nat_lit 0, nat_lit 0, .branch (nat_lit 117) (.branch (nat_lit 61) (.branch (nat_lit 29) (.branch (nat_lit 13) (.branch (nat_lit 5) (.branch (nat_lit 1) (.leaf (nat_lit 1, nat_lit 0, nat_lit 4, nat_lit 0, nat_lit 0, nat_lit 0, [])) (.branch (nat_lit 2) (.leaf (nat_lit 1, nat_lit 1, nat_lit 4, nat_lit 1, nat_lit 0, nat_lit 0, [])) (.leaf (nat_lit 14, nat_lit 2, nat_lit 8, nat_lit 9, nat_lit 0, nat_lit 1088, [])))) (.branch (nat_lit 9) (.branch (nat_lit 8) (.leaf (nat_lit 15, nat_lit 5, nat_lit 8, nat_lit 9, nat_lit 0, nat_lit 1088, [nat_lit 0])) (.leaf (nat_lit 1, nat_lit 8, nat_lit 4, nat_lit 0, nat_lit 0, nat_lit 0, []))) (.branch (nat_lit 10) (.leaf (nat_lit 1, nat_lit 9, nat_lit 4, nat_lit 1, nat_lit 0, nat_lit 0, [])) (.leaf (nat_lit 14, nat_lit 10, nat_lit 8, nat_lit 15, nat_lit 1, nat_lit 1093, []))))) (.branch (nat_lit 21) (.branch (nat_lit 17) (.branch (nat_lit 16) (.leaf (nat_lit 15, nat_lit 13, nat_lit 8, nat_lit 15, nat_lit 1, nat_lit 1093, [nat_lit 0])) (.leaf (nat_lit 1, nat_lit 16, nat_lit 4, nat_lit 0, nat_lit 0, nat_lit 0, []))) (.branch (nat_lit 18) (.leaf (nat_lit 1, nat_lit 17, nat_lit 4, nat_lit 1, nat_lit 0, nat_lit 0, [])) (.leaf (nat_lit 14, nat_lit 18, nat_lit 8, nat_lit 18, nat_lit 2, nat_lit 1098, [])))) (.branch (nat_lit 25) (.branch (nat_lit 24) (.leaf (nat_lit 15, nat_lit 21, nat_lit 8, nat_lit 18, nat_lit 2, nat_lit 1098, [nat_lit 0])) (.leaf (nat_lit 1, nat_lit 24, nat_lit 4, nat_lit 0, nat_lit 0, nat_lit 0, []))) (.branch (nat_lit 26) (.leaf (nat_lit 1, nat_lit 25, nat_lit 4, nat_lit 1, nat_lit 0, nat_lit 0, [])) (.leaf (nat_lit 14, nat_lit 26, nat_lit 8, nat_lit 21, nat_lit 3, nat_lit 1104, [])))))) (.branch (nat_lit 45) (.branch (nat_lit 37) (.branch (nat_lit 33) (.branch (nat_lit 32) (.leaf (nat_lit 15, nat_lit 29, nat_lit 8, nat_lit 21, nat_lit 3, nat_lit 1104, [nat_lit 0])) (.leaf (nat_lit 1, nat_lit 32, nat_lit 4, nat_lit 0, nat_lit 0, nat_lit 0, []))) (.branch (nat_lit 34) (.leaf (nat_lit 1, nat_lit 33, nat_lit 4, nat_lit 1, nat_lit 0, nat_lit 0, [])) (.leaf (nat_lit 14, nat_lit 34, nat_lit 8, nat_lit 24, nat_lit 4, nat_lit 1107, [])))) (.branch (nat_lit 41) (.branch (nat_lit 40) (.leaf (nat_lit 15, nat_lit 37, nat_lit 8, nat_lit 24, nat_lit 4, nat_lit 1107, [nat_lit 0])) (.leaf (nat_lit 1, nat_lit 40, nat_lit 4, nat_lit 0, nat_lit 0, nat_lit 0, []))) (.branch (nat_lit 42) (.leaf (nat_lit 1, nat_lit 41, nat_lit 4, nat_lit 1, nat_lit 0, nat_lit 0, [])) (.leaf (nat_lit 14, nat_lit 42, nat_lit 8, nat_lit 27, nat_lit 5, nat_lit 1110, []))))) (.branch (nat_lit 53) (.branch (nat_lit 49) (.branch (nat_lit 48) (.leaf (nat_lit 15, nat_lit 45, nat_lit 8, nat_lit 27, nat_lit 5, nat_lit 1110, [nat_lit 0])) (.leaf (nat_lit 1, nat_lit 48, nat_lit 4, nat_lit 0, nat_lit 0, nat_lit 0, []))) (.branch (nat_lit 50) (.leaf (nat_lit 1, nat_lit 49, nat_lit 4, nat_lit 1, nat_lit 0, nat_lit 0, [])) (.leaf (nat_lit 14, nat_lit 50, nat_lit 8, nat_lit 30, nat_lit 6, nat_lit 1113, [])))) (.branch (nat_lit 57) (.branch (nat_lit 56) (.leaf (nat_lit 15, nat_lit 53, nat_lit 8, nat_lit 30, nat_lit 6, nat_lit 1113, [nat_lit 0])) (.leaf (nat_lit 1, nat_lit 56, nat_lit 4, nat_lit 1, nat_lit 0, nat_lit 0, []))) (.branch (nat_lit 60) (.leaf (nat_lit 14, nat_lit 57, nat_lit 8, nat_lit 33, nat_lit 7, nat_lit 1116, [])) (.leaf (nat_lit 0, nat_lit 60, nat_lit 0, nat_lit 0, nat_lit 0, nat_lit 0, []))))))) (.branch (nat_lit 89) (.branch (nat_lit 75) (.branch (nat_lit 66) (.branch (nat_lit 62) (.leaf (nat_lit 1, nat_lit 61, nat_lit 4, nat_lit 0, nat_lit 0, nat_lit 0, [])) (.branch (nat_lit 65) (.leaf (nat_lit 14, nat_lit 62, nat_lit 8, nat_lit 33, nat_lit 7, nat_lit 1116, [])) (.leaf (nat_lit 0, nat_lit 65, nat_lit 0, nat_lit 0, nat_lit 0, nat_lit 0, [])))) (.branch (nat_lit 71) (.branch (nat_lit 68) (.leaf (nat_lit 0, nat_lit 66, nat_lit 1, nat_lit 6, nat_lit 0, nat_lit 0, [])) (.leaf (nat_lit 26, nat_lit 68, nat_lit 0, nat_lit 76, nat_lit 0, nat_lit 4069, [nat_lit 3096, nat_lit 3095, nat_lit 1014]))) (.branch (nat_lit 72) (.leaf (nat_lit 1, nat_lit 71, nat_lit 4, nat_lit 1, nat_lit 0, nat_lit 0, [])) (.leaf (nat_lit 14, nat_lit 72, nat_lit 8, nat_lit 37, nat_lit 8, nat_lit 1117, []))))) (.branch (nat_lit 81) (.branch (nat_lit 77) (.branch (nat_lit 76) (.leaf (nat_lit 0, nat_lit 75, nat_lit 0, nat_lit 0, nat_lit 0, nat_lit 0, [])) (.leaf (nat_lit 1, nat_lit 76, nat_lit 4, nat_lit 0, nat_lit 0, nat_lit 0, []))) (.branch (nat_lit 80) (.leaf (nat_lit 14, nat_lit 77, nat_lit 8, nat_lit 37, nat_lit 8, nat_lit 1117, [])) (.leaf (nat_lit 0, nat_lit 80, nat_lit 0, nat_lit 0, nat_lit 0, nat_lit 0, [])))) (.branch (nat_lit 85) (.branch (nat_lit 82) (.leaf (nat_lit 0, nat_lit 81, nat_lit 0, nat_lit 4, nat_lit 0, nat_lit 0, [])) (.leaf (nat_lit 26, nat_lit 82, nat_lit 0, nat_lit 76, nat_lit 0, nat_lit 4069, [nat_lit 3096, nat_lit 3095, nat_lit 1014]))) (.branch (nat_lit 86) (.leaf (nat_lit 1, nat_lit 85, nat_lit 4, nat_lit 1, nat_lit 0, nat_lit 0, [])) (.leaf (nat_lit 14, nat_lit 86, nat_lit 8, nat_lit 40, nat_lit 9, nat_lit 1118, [])))))) (.branch (nat_lit 103) (.branch (nat_lit 95) (.branch (nat_lit 91) (.branch (nat_lit 90) (.leaf (nat_lit 0, nat_lit 89, nat_lit 0, nat_lit 0, nat_lit 0, nat_lit 0, [])) (.leaf (nat_lit 1, nat_lit 90, nat_lit 4, nat_lit 0, nat_lit 0, nat_lit 0, []))) (.branch (nat_lit 94) (.leaf (nat_lit 14, nat_lit 91, nat_lit 8, nat_lit 40, nat_lit 9, nat_lit 1118, [])) (.leaf (nat_lit 0, nat_lit 94, nat_lit 0, nat_lit 0, nat_lit 0, nat_lit 0, [])))) (.branch (nat_lit 99) (.branch (nat_lit 96) (.leaf (nat_lit 0, nat_lit 95, nat_lit 0, nat_lit 4, nat_lit 0, nat_lit 0, [])) (.leaf (nat_lit 26, nat_lit 96, nat_lit 0, nat_lit 76, nat_lit 0, nat_lit 4069, [nat_lit 3096, nat_lit 3095, nat_lit 1014]))) (.branch (nat_lit 100) (.leaf (nat_lit 1, nat_lit 99, nat_lit 4, nat_lit 1, nat_lit 0, nat_lit 0, [])) (.leaf (nat_lit 14, nat_lit 100, nat_lit 8, nat_lit 43, nat_lit 10, nat_lit 1120, []))))) (.branch (nat_lit 109) (.branch (nat_lit 105) (.branch (nat_lit 104) (.leaf (nat_lit 0, nat_lit 103, nat_lit 0, nat_lit 0, nat_lit 0, nat_lit 0, [])) (.leaf (nat_lit 1, nat_lit 104, nat_lit 4, nat_lit 0, nat_lit 0, nat_lit 0, []))) (.branch (nat_lit 108) (.leaf (nat_lit 14, nat_lit 105, nat_lit 8, nat_lit 43, nat_lit 10, nat_lit 1120, [])) (.leaf (nat_lit 0, nat_lit 108, nat_lit 0, nat_lit 0, nat_lit 0, nat_lit 0, [])))) (.branch (nat_lit 113) (.branch (nat_lit 110) (.leaf (nat_lit 0, nat_lit 109, nat_lit 0, nat_lit 4, nat_lit 0, nat_lit 0, [])) (.leaf (nat_lit 26, nat_lit 110, nat_lit 0, nat_lit 76, nat_lit 0, nat_lit 4069, [nat_lit 3096, nat_lit 3095, nat_lit 1014]))) (.branch (nat_lit 114) (.leaf (nat_lit 1, nat_lit 113, nat_lit 4, nat_lit 1, nat_lit 0, nat_lit 0, [])) (.leaf (nat_lit 14, nat_lit 114, nat_lit 8, nat_lit 46, nat_lit 11, nat_lit 1122, [])))))))) (.branch (nat_lit 173) (.branch (nat_lit 143) (.branch (nat_lit 128) (.branch (nat_lit 122) (.branch (nat_lit 118) (.leaf (nat_lit 0, nat_lit 117, nat_lit 0, nat_lit 0, nat_lit 0, nat_lit 0, [])) (.branch (nat_lit 119) (.leaf (nat_lit 1, nat_lit 118, nat_lit 4, nat_lit 0, nat_lit 0, nat_lit 0, [])) (.leaf (nat_lit 14, nat_lit 119, nat_lit 8, nat_lit 46, nat_lit 11, nat_lit 1122, [])))) (.branch (nat_lit 124) (.branch (nat_lit 123) (.leaf (nat_lit 0, nat_lit 122, nat_lit 0, nat_lit 0, nat_lit 0, nat_lit 0, [])) (.leaf (nat_lit 0, nat_lit 123, nat_lit 0, nat_lit 4, nat_lit 0, nat_lit 0, []))) (.branch (nat_lit 127) (.leaf (nat_lit 26, nat_lit 124, nat_lit 0, nat_lit 76, nat_lit 0, nat_lit 4069, [nat_lit 3096, nat_lit 3095, nat_lit 1014])) (.leaf (nat_lit 1, nat_lit 127, nat_lit 4, nat_lit 1, nat_lit 0, nat_lit 0, []))))) (.branch (nat_lit 136) (.branch (nat_lit 132) (.branch (nat_lit 131) (.leaf (nat_lit 14, nat_lit 128, nat_lit 8, nat_lit 49, nat_lit 12, nat_lit 1124, [])) (.leaf (nat_lit 0, nat_lit 131, nat_lit 0, nat_lit 0, nat_lit 0, nat_lit 0, []))) (.branch (nat_lit 133) (.leaf (nat_lit 1, nat_lit 132, nat_lit 4, nat_lit 0, nat_lit 0, nat_lit 0, [])) (.leaf (nat_lit 14, nat_lit 133, nat_lit 8, nat_lit 49, nat_lit 12, nat_lit 1124, [])))) (.branch (nat_lit 139) (.branch (nat_lit 137) (.leaf (nat_lit 0, nat_lit 136, nat_lit 0, nat_lit 0, nat_lit 0, nat_lit 0, [])) (.leaf (nat_lit 0, nat_lit 137, nat_lit 1, nat_lit 96, nat_lit 0, nat_lit 0, []))) (.branch (nat_lit 142) (.leaf (nat_lit 26, nat_lit 139, nat_lit 0, nat_lit 76, nat_lit 0, nat_lit 4069, [nat_lit 3096, nat_lit 3095, nat_lit 1014])) (.leaf (nat_lit 1, nat_lit 142, nat_lit 4, nat_lit 1, nat_lit 0, nat_lit 0, [])))))) (.branch (nat_lit 158) (.branch (nat_lit 151) (.branch (nat_lit 147) (.branch (nat_lit 146) (.leaf (nat_lit 14, nat_lit 143, nat_lit 8, nat_lit 52, nat_lit 13, nat_lit 1126, [])) (.leaf (nat_lit 0, nat_lit 146, nat_lit 0, nat_lit 0, nat_lit 0, nat_lit 0, []))) (.branch (nat_lit 148) (.leaf (nat_lit 1, nat_lit 147, nat_lit 4, nat_lit 0, nat_lit 0, nat_lit 0, [])) (.leaf (nat_lit 14, nat_lit 148, nat_lit 8, nat_lit 52, nat_lit 13, nat_lit 1126, [])))) (.branch (nat_lit 154) (.branch (nat_lit 152) (.leaf (nat_lit 0, nat_lit 151, nat_lit 0, nat_lit 0, nat_lit 0, nat_lit 0, [])) (.leaf (nat_lit 0, nat_lit 152, nat_lit 1, nat_lit 96, nat_lit 0, nat_lit 0, []))) (.branch (nat_lit 157) (.leaf (nat_lit 26, nat_lit 154, nat_lit 0, nat_lit 76, nat_lit 0, nat_lit 4069, [nat_lit 3096, nat_lit 3095, nat_lit 1014])) (.leaf (nat_lit 1, nat_lit 157, nat_lit 4, nat_lit 1, nat_lit 0, nat_lit 0, []))))) (.branch (nat_lit 166) (.branch (nat_lit 162) (.branch (nat_lit 161) (.leaf (nat_lit 14, nat_lit 158, nat_lit 8, nat_lit 55, nat_lit 14, nat_lit 1129, [])) (.leaf (nat_lit 0, nat_lit 161, nat_lit 0, nat_lit 0, nat_lit 0, nat_lit 0, []))) (.branch (nat_lit 163) (.leaf (nat_lit 1, nat_lit 162, nat_lit 4, nat_lit 0, nat_lit 0, nat_lit 0, [])) (.leaf (nat_lit 14, nat_lit 163, nat_lit 8, nat_lit 55, nat_lit 14, nat_lit 1129, [])))) (.branch (nat_lit 169) (.branch (nat_lit 167) (.leaf (nat_lit 0, nat_lit 166, nat_lit 0, nat_lit 0, nat_lit 0, nat_lit 0, [])) (.leaf (nat_lit 0, nat_lit 167, nat_lit 1, nat_lit 96, nat_lit 0, nat_lit 0, []))) (.branch (nat_lit 172) (.leaf (nat_lit 26, nat_lit 169, nat_lit 0, nat_lit 76, nat_lit 0, nat_lit 4069, [nat_lit 3096, nat_lit 3095, nat_lit 1014])) (.leaf (nat_lit 1, nat_lit 172, nat_lit 4, nat_lit 1, nat_lit 0, nat_lit 0, []))))))) (.branch (nat_lit 203) (.branch (nat_lit 188) (.branch (nat_lit 181) (.branch (nat_lit 177) (.branch (nat_lit 176) (.leaf (nat_lit 14, nat_lit 173, nat_lit 8, nat_lit 58, nat_lit 15, nat_lit 1131, [])) (.leaf (nat_lit 0, nat_lit 176, nat_lit 0, nat_lit 0, nat_lit 0, nat_lit 0, []))) (.branch (nat_lit 178) (.leaf (nat_lit 1, nat_lit 177, nat_lit 4, nat_lit 0, nat_lit 0, nat_lit 0, [])) (.leaf (nat_lit 14, nat_lit 178, nat_lit 8, nat_lit 58, nat_lit 15, nat_lit 1131, [])))) (.branch (nat_lit 184) (.branch (nat_lit 182) (.leaf (nat_lit 0, nat_lit 181, nat_lit 0, nat_lit 0, nat_lit 0, nat_lit 0, [])) (.leaf (nat_lit 0, nat_lit 182, nat_lit 1, nat_lit 96, nat_lit 0, nat_lit 0, []))) (.branch (nat_lit 187) (.leaf (nat_lit 26, nat_lit 184, nat_lit 0, nat_lit 76, nat_lit 0, nat_lit 4069, [nat_lit 3096, nat_lit 3095, nat_lit 1014])) (.leaf (nat_lit 1, nat_lit 187, nat_lit 4, nat_lit 1, nat_lit 0, nat_lit 0, []))))) (.branch (nat_lit 196) (.branch (nat_lit 192) (.branch (nat_lit 191) (.leaf (nat_lit 14, nat_lit 188, nat_lit 8, nat_lit 61, nat_lit 16, nat_lit 1132, [])) (.leaf (nat_lit 0, nat_lit 191, nat_lit 0, nat_lit 0, nat_lit 0, nat_lit 0, []))) (.branch (nat_lit 193) (.leaf (nat_lit 1, nat_lit 192, nat_lit 4, nat_lit 0, nat_lit 0, nat_lit 0, [])) (.leaf (nat_lit 14, nat_lit 193, nat_lit 8, nat_lit 61, nat_lit 16, nat_lit 1132, [])))) (.branch (nat_lit 199) (.branch (nat_lit 197) (.leaf (nat_lit 0, nat_lit 196, nat_lit 0, nat_lit 0, nat_lit 0, nat_lit 0, [])) (.leaf (nat_lit 0, nat_lit 197, nat_lit 1, nat_lit 96, nat_lit 0, nat_lit 0, []))) (.branch (nat_lit 202) (.leaf (nat_lit 26, nat_lit 199, nat_lit 0, nat_lit 76, nat_lit 0, nat_lit 4069, [nat_lit 3096, nat_lit 3095, nat_lit 1014])) (.leaf (nat_lit 1, nat_lit 202, nat_lit 4, nat_lit 1, nat_lit 0, nat_lit 0, [])))))) (.branch (nat_lit 218) (.branch (nat_lit 211) (.branch (nat_lit 207) (.branch (nat_lit 206) (.leaf (nat_lit 14, nat_lit 203, nat_lit 8, nat_lit 64, nat_lit 17, nat_lit 1135, [])) (.leaf (nat_lit 0, nat_lit 206, nat_lit 0, nat_lit 0, nat_lit 0, nat_lit 0, []))) (.branch (nat_lit 208) (.leaf (nat_lit 1, nat_lit 207, nat_lit 4, nat_lit 0, nat_lit 0, nat_lit 0, [])) (.leaf (nat_lit 14, nat_lit 208, nat_lit 8, nat_lit 64, nat_lit 17, nat_lit 1135, [])))) (.branch (nat_lit 214) (.branch (nat_lit 212) (.leaf (nat_lit 0, nat_lit 211, nat_lit 0, nat_lit 0, nat_lit 0, nat_lit 0, [])) (.leaf (nat_lit 0, nat_lit 212, nat_lit 1, nat_lit 96, nat_lit 0, nat_lit 0, []))) (.branch (nat_lit 217) (.leaf (nat_lit 26, nat_lit 214, nat_lit 0, nat_lit 76, nat_lit 0, nat_lit 4069, [nat_lit 3096, nat_lit 3095, nat_lit 1014])) (.leaf (nat_lit 1, nat_lit 217, nat_lit 4, nat_lit 1, nat_lit 0, nat_lit 0, []))))) (.branch (nat_lit 226) (.branch (nat_lit 222) (.branch (nat_lit 221) (.leaf (nat_lit 14, nat_lit 218, nat_lit 8, nat_lit 67, nat_lit 18, nat_lit 1137, [])) (.leaf (nat_lit 0, nat_lit 221, nat_lit 0, nat_lit 0, nat_lit 0, nat_lit 0, []))) (.branch (nat_lit 223) (.leaf (nat_lit 1, nat_lit 222, nat_lit 4, nat_lit 0, nat_lit 0, nat_lit 0, [])) (.leaf (nat_lit 14, nat_lit 223, nat_lit 8, nat_lit 67, nat_lit 18, nat_lit 1137, [])))) (.branch (nat_lit 229) (.branch (nat_lit 227) (.leaf (nat_lit 0, nat_lit 226, nat_lit 0, nat_lit 0, nat_lit 0, nat_lit 0, [])) (.leaf (nat_lit 0, nat_lit 227, nat_lit 1, nat_lit 96, nat_lit 0, nat_lit 0, []))) (.branch (nat_lit 232) (.leaf (nat_lit 26, nat_lit 229, nat_lit 0, nat_lit 76, nat_lit 0, nat_lit 4069, [nat_lit 3096, nat_lit 3095, nat_lit 1014])) (.leaf (nat_lit 24, nat_lit 232, nat_lit 0, nat_lit 0, nat_lit 0, nat_lit 0, []))))))))), [nat_lit 4068, nat_lit 1004, nat_lit 4066, nat_lit 4067])
set_option maxRecDepth 100000 in
def q_M80 : qM × List Nat := ((yX8_hasStone, cX8_hasStone, nat_lit 2, some .boolean, nat_lit 8, nat_lit 2, nat_lit 1, nat_lit 0, nat_lit 0, .branch (nat_lit 6) (.branch (nat_lit 4) (.branch (nat_lit 1) (.leaf (nat_lit 1, nat_lit 0, nat_lit 0, nat_lit 1, nat_lit 0, nat_lit 0, [])) (.leaf (nat_lit 8, nat_lit 1, nat_lit 2, nat_lit 16, nat_lit 0, nat_lit 0, []))) (.branch (nat_lit 5) (.leaf (nat_lit 1, nat_lit 4, nat_lit 0, nat_lit 1, nat_lit 0, nat_lit 0, [])) (.leaf (nat_lit 1, nat_lit 5, nat_lit 4, nat_lit 0, nat_lit 0, nat_lit 0, [])))) (.branch (nat_lit 16) (.branch (nat_lit 9) (.leaf (nat_lit 14, nat_lit 6, nat_lit 8, nat_lit 18, nat_lit 2, nat_lit 1098, [])) (.leaf (nat_lit 9, nat_lit 9, nat_lit 3, nat_lit 16, nat_lit 0, nat_lit 0, []))) (.branch (nat_lit 17) (.leaf (nat_lit 0, nat_lit 16, nat_lit 0, nat_lit 0, nat_lit 0, nat_lit 0, [])) (.leaf (nat_lit 24, nat_lit 17, nat_lit 1, nat_lit 0, nat_lit 0, nat_lit 0, []))))), [nat_lit 4163, nat_lit 1004, nat_lit 4161, nat_lit 4162])
set_option maxRecDepth 100000 in
def q_M81 : qM × List Nat := ((yX8_hasMason, cX8_hasMason, nat_lit 2, some .boolean, nat_lit 8, nat_lit 2, nat_lit 1, nat_lit 0, nat_lit 0, .branch (nat_lit 6) (.branch (nat_lit 4) (.branch (nat_lit 1) (.leaf (nat_lit 1, nat_lit 0, nat_lit 0, nat_lit 1, nat_lit 0, nat_lit 0, [])) (.leaf (nat_lit 8, nat_lit 1, nat_lit 2, nat_lit 16, nat_lit 0, nat_lit 0, []))) (.branch (nat_lit 5) (.leaf (nat_lit 1, nat_lit 4, nat_lit 0, nat_lit 1, nat_lit 0, nat_lit 0, [])) (.leaf (nat_lit 1, nat_lit 5, nat_lit 4, nat_lit 0, nat_lit 0, nat_lit 0, [])))) (.branch (nat_lit 16) (.branch (nat_lit 9) (.leaf (nat_lit 14, nat_lit 6, nat_lit 8, nat_lit 24, nat_lit 4, nat_lit 1107, [])) (.leaf (nat_lit 9, nat_lit 9, nat_lit 3, nat_lit 16, nat_lit 0, nat_lit 0, []))) (.branch (nat_lit 17) (.leaf (nat_lit 0, nat_lit 16, nat_lit 0, nat_lit 0, nat_lit 0, nat_lit 0, [])) (.leaf (nat_lit 24, nat_lit 17, nat_lit 1, nat_lit 0, nat_lit 0, nat_lit 0, []))))), [nat_lit 4183, nat_lit 1004, nat_lit 4181, nat_lit 4182])
set_option maxRecDepth 100000 in
def q_M100 : qM × List Nat := ((yX9_init, cX9_init, nat_lit 1, none, nat_lit 9, nat_lit 1, nat_lit 0, nat_lit 15, nat_lit 721, .branch (nat_lit 17) (.branch (nat_lit 8) (.branch (nat_lit 4) (.branch (nat_lit 1) (.leaf (nat_lit 1, nat_lit 0, nat_lit 4, nat_lit 0, nat_lit 0, nat_lit 0, [])) (.leaf (nat_lit 25, nat_lit 1, nat_lit 0, nat_lit 3, nat_lit 0, nat_lit 2011, [nat_lit 1026, nat_lit 1027]))) (.branch (nat_lit 5) (.leaf (nat_lit 1, nat_lit 4, nat_lit 4, nat_lit 0, nat_lit 0, nat_lit 0, [])) (.leaf (nat_lit 22, nat_lit 5, nat_lit 8, nat_lit 9, nat_lit 10831004, nat_lit 2012, [nat_lit 0, nat_lit 0, nat_lit 0, nat_lit 0, nat_lit 0, nat_lit 0, nat_lit 0, nat_lit 3, nat_lit 3, nat_lit 3, nat_lit 3, nat_lit 3, nat_lit 3, nat_lit 3, nat_lit 3, nat_lit 3, nat_lit 3, nat_lit 3, nat_lit 3])))) (.branch (nat_lit 12) (.branch (nat_lit 9) (.leaf (nat_lit 13, nat_lit 8, nat_lit 0, nat_lit 0, nat_lit 0, nat_lit 0, [])) (.leaf (nat_lit 23, nat_lit 9, nat_lit 1, nat_lit 11, nat_lit 2013, nat_lit 77, []))) (.branch (nat_lit 15) (.leaf (nat_lit 15, nat_lit 12, nat_lit 9, nat_lit 12, nat_lit 0, nat_lit 2014, [nat_lit 3])) (.branch (nat_lit 16) (.leaf (nat_lit 1, nat_lit 15, nat_lit 4, nat_lit 0, nat_lit 0, nat_lit 0, [])) (.leaf (nat_lit 0, nat_lit 16, nat_lit 0, nat_lit 4, nat_lit 0, nat_lit 0, [])))))) (.branch (nat_lit 26) (.branch (nat_lit 22) (.branch (nat_lit 19) (.leaf (nat_lit 16, nat_lit 17, nat_lit 0, nat_lit 0, nat_lit 0, nat_lit 1178, [])) (.leaf (nat_lit 15, nat_lit 19, nat_lit 9, nat_lit 18, nat_lit 1, nat_lit 2016, [nat_lit 3]))) (.branch (nat_lit 23) (.leaf (nat_lit 1, nat_lit 22, nat_lit 4, nat_lit 0, nat_lit 0, nat_lit 0, [])) (.branch (nat_lit 24) (.leaf (nat_lit 0, nat_lit 23, nat_lit 0, nat_lit 4, nat_lit 0, nat_lit 0, [])) (.leaf (nat_lit 16, nat_lit 24, nat_lit 0, nat_lit 0, nat_lit 0, nat_lit 1178, []))))) (.branch (nat_lit 30) (.branch (nat_lit 29) (.leaf (nat_lit 15, nat_lit 26, nat_lit 9, nat_lit 22, nat_lit 2, nat_lit 2017, [nat_lit 3])) (.leaf (nat_lit 1, nat_lit 29, nat_lit 4, nat_lit 0, nat_lit 0, nat_lit 0, []))) (.branch (nat_lit 31) (.leaf (nat_lit 0, nat_lit 30, nat_lit 0, nat_lit 0, nat_lit 0, nat_lit 0, [])) (.branch (nat_lit 34) (.leaf (nat_lit 15, nat_lit 31, nat_lit 9, nat_lit 25, nat_lit 3, nat_lit 2018, [nat_lit 0])) (.leaf (nat_lit 24, nat_lit 34, nat_lit 0, nat_lit 0, nat_lit 0, nat_lit 0, []))))))), [nat_lit 2010, nat_lit 1007, nat_lit 2009, nat_lit 0])
set_option maxRecDepth 100000 in
def q_M101 : qM × List Nat := ((yX9_readWall, cX9_readWall, nat_lit 5, some .boolean, nat_lit 9, nat_lit 2, nat_lit 2, nat_lit 0, nat_lit 0, .branch (nat_lit 22) (.branch (nat_lit 12) (.branch (nat_lit 7) (.branch (nat_lit 1) (.leaf (nat_lit 1, nat_lit 0, nat_lit 4, nat_lit 0, nat_lit 0, nat_lit 0, [])) (.branch (nat_lit 4) (.leaf (nat_lit 14, nat_lit 1, nat_lit 9, nat_lit 12, nat_lit 0, nat_lit 2014, [])) (.leaf (nat_lit 23, nat_lit 4, nat_lit 2, nat_lit 29, nat_lit 3113, nat_lit 78, [])))) (.branch (nat_lit 8) (.leaf (nat_lit 1, nat_lit 7, nat_lit 4, nat_lit 0, nat_lit 0, nat_lit 0, [])) (.branch (nat_lit 9) (.leaf (nat_lit 0, nat_lit 8, nat_lit 0, nat_lit 0, nat_lit 0, nat_lit 0, [])) (.leaf (nat_lit 15, nat_lit 9, nat_lit 9, nat_lit 25, nat_lit 3, nat_lit 2018, [nat_lit 0]))))) (.branch (nat_lit 17) (.branch (nat_lit 13) (.leaf (nat_lit 1, nat_lit 12, nat_lit 4, nat_lit 1, nat_lit 0, nat_lit 0, [])) (.branch (nat_lit 14) (.leaf (nat_lit 1, nat_lit 13, nat_lit 0, nat_lit 2, nat_lit 0, nat_lit 0, [])) (.leaf (nat_lit 23, nat_lit 14, nat_lit 2, nat_lit 32, nat_lit 3118, nat_lit 50, [])))) (.branch (nat_lit 18) (.leaf (nat_lit 1, nat_lit 17, nat_lit 4, nat_lit 0, nat_lit 0, nat_lit 0, [])) (.branch (nat_lit 19) (.leaf (nat_lit 1, nat_lit 18, nat_lit 4, nat_lit 1, nat_lit 0, nat_lit 0, [])) (.leaf (nat_lit 23, nat_lit 19, nat_lit 2, nat_lit 38, nat_lit 3133, nat_lit 102, [])))))) (.branch (nat_lit 34) (.branch (nat_lit 26) (.branch (nat_lit 23) (.leaf (nat_lit 2, nat_lit 22, nat_lit 0, nat_lit 3, nat_lit 0, nat_lit 0, [])) (.branch (nat_lit 24) (.leaf (nat_lit 0, nat_lit 23, nat_lit 0, nat_lit 0, nat_lit 0, nat_lit 0, [])) (.leaf (nat_lit 2, nat_lit 24, nat_lit 1, nat_lit 4, nat_lit 0, nat_lit 0, [])))) (.branch (nat_lit 28) (.leaf (nat_lit 1, nat_lit 26, nat_lit 1, nat_lit 4, nat_lit 0, nat_lit 0, [])) (.branch (nat_lit 31) (.leaf (nat_lit 0, nat_lit 28, nat_lit 2, nat_lit 900, nat_lit 0, nat_lit 0, [])) (.leaf (nat_lit 9, nat_lit 31, nat_lit 3, nat_lit 128, nat_lit 0, nat_lit 0, []))))) (.branch (nat_lit 129) (.branch (nat_lit 35) (.leaf (nat_lit 1, nat_lit 34, nat_lit 0, nat_lit 3, nat_lit 0, nat_lit 0, [])) (.branch (nat_lit 128) (.leaf (nat_lit 8, nat_lit 35, nat_lit 0, nat_lit 128, nat_lit 0, nat_lit 0, [])) (.leaf (nat_lit 1, nat_lit 128, nat_lit 0, nat_lit 3, nat_lit 0, nat_lit 0, [])))) (.branch (nat_lit 139) (.leaf (nat_lit 8, nat_lit 129, nat_lit 0, nat_lit 139, nat_lit 0, nat_lit 0, [])) (.branch (nat_lit 140) (.leaf (nat_lit 1, nat_lit 139, nat_lit 0, nat_lit 3, nat_lit 0, nat_lit 0, [])) (.leaf (nat_lit 24, nat_lit 140, nat_lit 1, nat_lit 0, nat_lit 0, nat_lit 0, []))))))), [nat_lit 3112, nat_lit 1007, nat_lit 3110, nat_lit 3111])
set_option maxRecDepth 100000 in
def q_M102 : qM × List Nat := ((yX9_readOath, cX9_readOath, nat_lit 4, some .boolean, nat_lit 9, nat_lit 2, nat_lit 1, nat_lit 0, nat_lit 0, .branch (nat_lit 6) (.branch (nat_lit 1) (.leaf (nat_lit 1, nat_lit 0, nat_lit 4, nat_lit 1, nat_lit 0, nat_lit 0, [])) (.branch (nat_lit 3) (.leaf (nat_lit 0, nat_lit 1, nat_lit 7, nat_lit 76, nat_lit 0, nat_lit 3137, [])) (.leaf (nat_lit 23, nat_lit 3, nat_lit 2, nat_lit 78, nat_lit 3138, nat_lit 60, [])))) (.branch (nat_lit 9) (.leaf (nat_lit 8, nat_lit 6, nat_lit 1, nat_lit 11, nat_lit 0, nat_lit 0, [])) (.branch (nat_lit 10) (.leaf (nat_lit 0, nat_lit 9, nat_lit 0, nat_lit 0, nat_lit 0, nat_lit 0, [])) (.leaf (nat_lit 24, nat_lit 10, nat_lit 1, nat_lit 0, nat_lit 0, nat_lit 0, []))))), [nat_lit 3136, nat_lit 1007, nat_lit 3135, nat_lit 5])
set_option maxRecDepth 100000 in
def q_M109 : qM × List Nat := ((yX10_init, cX10_init, nat_lit 2, none, nat_lit 10, nat_lit 1, nat_lit 0, nat_lit 533, nat_lit 18083, .branch (nat_lit 110) (.branch (nat_lit 51) (.branch (nat_lit 21) (.branch (nat_lit 10) (.branch (nat_lit 5) (.branch (nat_lit 1) (.leaf (nat_lit 1, nat_lit 0, nat_lit 4, nat_lit 0, nat_lit 0, nat_lit 0, [])) (.branch (nat_lit 4) (.leaf (nat_lit 25, nat_lit 1, nat_lit 0, nat_lit 1, nat_lit 0, nat_lit 1025, [nat_lit 1026, nat_lit 1027])) (.leaf (nat_lit 1, nat_lit 4, nat_lit 4, nat_lit 0, nat_lit 0, nat_lit 0, [])))) (.branch (nat_lit 6) (.leaf (nat_lit 0, nat_lit 5, nat_lit 0, nat_lit 0, nat_lit 0, nat_lit 0, [])) (.branch (nat_lit 9) (.leaf (nat_lit 15, nat_lit 6, nat_lit 10, nat_lit 9, nat_lit 0, nat_lit 2207, [nat_lit 0])) (.leaf (nat_lit 1, nat_lit 9, nat_lit 4, nat_lit 0, nat_lit 0, nat_lit 0, []))))) (.branch (nat_lit 15) (.branch (nat_lit 11) (.leaf (nat_lit 0, nat_lit 10, nat_lit 3, nat_lit 0, nat_lit 0, nat_lit 0, [])) (.branch (nat_lit 14) (.leaf (nat_lit 15, nat_lit 11, nat_lit 10, nat_lit 13, nat_lit 1, nat_lit 2208, [nat_lit 2])) (.leaf (nat_lit 1, nat_lit 14, nat_lit 4, nat_lit 0, nat_lit 0, nat_lit 0, [])))) (.branch (nat_lit 19) (.branch (nat_lit 16) (.leaf (nat_lit 0, nat_lit 15, nat_lit 3, nat_lit 1, nat_lit 0, nat_lit 0, [])) (.leaf (nat_lit 15, nat_lit 16, nat_lit 10, nat_lit 17, nat_lit 2, nat_lit 2209, [nat_lit 2]))) (.branch (nat_lit 20) (.leaf (nat_lit 1, nat_lit 19, nat_lit 4, nat_lit 0, nat_lit 0, nat_lit 0, [])) (.leaf (nat_lit 0, nat_lit 20, nat_lit 0, nat_lit 4, nat_lit 0, nat_lit 0, [])))))) (.branch (nat_lit 38) (.branch (nat_lit 28) (.branch (nat_lit 24) (.leaf (nat_lit 17, nat_lit 21, nat_lit 6, nat_lit 20, nat_lit 0, nat_lit 1028, [nat_lit 1029])) (.branch (nat_lit 27) (.leaf (nat_lit 15, nat_lit 24, nat_lit 10, nat_lit 22, nat_lit 3, nat_lit 2210, [nat_lit 3])) (.leaf (nat_lit 1, nat_lit 27, nat_lit 4, nat_lit 0, nat_lit 0, nat_lit 0, [])))) (.branch (nat_lit 32) (.branch (nat_lit 31) (.leaf (nat_lit 22, nat_lit 28, nat_lit 5, nat_lit 26, nat_lit 10311002, nat_lit 1030, [nat_lit 3, nat_lit 0, nat_lit 0, nat_lit 0, nat_lit 0, nat_lit 0, nat_lit 0, nat_lit 0, nat_lit 0, nat_lit 0])) (.leaf (nat_lit 13, nat_lit 31, nat_lit 0, nat_lit 0, nat_lit 0, nat_lit 0, []))) (.branch (nat_lit 35) (.leaf (nat_lit 23, nat_lit 32, nat_lit 1, nat_lit 28, nat_lit 1032, nat_lit 48, [])) (.leaf (nat_lit 15, nat_lit 35, nat_lit 10, nat_lit 29, nat_lit 4, nat_lit 2211, [nat_lit 3]))))) (.branch (nat_lit 43) (.branch (nat_lit 39) (.leaf (nat_lit 1, nat_lit 38, nat_lit 4, nat_lit 0, nat_lit 0, nat_lit 0, [])) (.branch (nat_lit 42) (.leaf (nat_lit 22, nat_lit 39, nat_lit 3, nat_lit 33, nat_lit 10771003, nat_lit 1076, [nat_lit 3, nat_lit 3, nat_lit 3, nat_lit 1, nat_lit 0])) (.leaf (nat_lit 13, nat_lit 42, nat_lit 0, nat_lit 0, nat_lit 0, nat_lit 0, [])))) (.branch (nat_lit 49) (.branch (nat_lit 46) (.leaf (nat_lit 23, nat_lit 43, nat_lit 1, nat_lit 35, nat_lit 1078, nat_lit 33, [])) (.leaf (nat_lit 15, nat_lit 46, nat_lit 10, nat_lit 36, nat_lit 5, nat_lit 2212, [nat_lit 3]))) (.branch (nat_lit 50) (.leaf (nat_lit 1, nat_lit 49, nat_lit 4, nat_lit 0, nat_lit 0, nat_lit 0, [])) (.leaf (nat_lit 0, nat_lit 50, nat_lit 0, nat_lit 3, nat_lit 0, nat_lit 0, []))))))) (.branch (nat_lit 78) (.branch (nat_lit 63) (.branch (nat_lit 58) (.branch (nat_lit 54) (.leaf (nat_lit 17, nat_lit 51, nat_lit 3, nat_lit 33, nat_lit 0, nat_lit 1076, [nat_lit 2005])) (.branch (nat_lit 57) (.leaf (nat_lit 15, nat_lit 54, nat_lit 10, nat_lit 40, nat_lit 6, nat_lit 2213, [nat_lit 3])) (.leaf (nat_lit 1, nat_lit 57, nat_lit 4, nat_lit 0, nat_lit 0, nat_lit 0, [])))) (.branch (nat_lit 59) (.leaf (nat_lit 0, nat_lit 58, nat_lit 0, nat_lit 0, nat_lit 0, nat_lit 0, [])) (.branch (nat_lit 62) (.leaf (nat_lit 15, nat_lit 59, nat_lit 10, nat_lit 44, nat_lit 7, nat_lit 2214, [nat_lit 0])) (.leaf (nat_lit 1, nat_lit 62, nat_lit 4, nat_lit 0, nat_lit 0, nat_lit 0, []))))) (.branch (nat_lit 70) (.branch (nat_lit 66) (.leaf (nat_lit 22, nat_lit 63, nat_lit 9, nat_lit 47, nat_lit 20071007, nat_lit 2006, [nat_lit 3, nat_lit 3, nat_lit 3, nat_lit 0])) (.branch (nat_lit 67) (.leaf (nat_lit 13, nat_lit 66, nat_lit 0, nat_lit 0, nat_lit 0, nat_lit 0, [])) (.leaf (nat_lit 23, nat_lit 67, nat_lit 1, nat_lit 49, nat_lit 2008, nat_lit 100, [])))) (.branch (nat_lit 74) (.branch (nat_lit 73) (.leaf (nat_lit 15, nat_lit 70, nat_lit 10, nat_lit 50, nat_lit 8, nat_lit 2215, [nat_lit 3])) (.leaf (nat_lit 1, nat_lit 73, nat_lit 4, nat_lit 0, nat_lit 0, nat_lit 0, []))) (.branch (nat_lit 77) (.leaf (nat_lit 22, nat_lit 74, nat_lit 2, nat_lit 54, nat_lit 20291008, nat_lit 2028, [nat_lit 3, nat_lit 3, nat_lit 0])) (.leaf (nat_lit 13, nat_lit 77, nat_lit 0, nat_lit 0, nat_lit 0, nat_lit 0, [])))))) (.branch (nat_lit 95) (.branch (nat_lit 85) (.branch (nat_lit 81) (.leaf (nat_lit 23, nat_lit 78, nat_lit 1, nat_lit 56, nat_lit 2030, nat_lit 24, [])) (.branch (nat_lit 84) (.leaf (nat_lit 15, nat_lit 81, nat_lit 10, nat_lit 57, nat_lit 9, nat_lit 2216, [nat_lit 3])) (.leaf (nat_lit 1, nat_lit 84, nat_lit 4, nat_lit 0, nat_lit 0, nat_lit 0, [])))) (.branch (nat_lit 89) (.branch (nat_lit 88) (.leaf (nat_lit 22, nat_lit 85, nat_lit 0, nat_lit 61, nat_lit 20481009, nat_lit 2047, [nat_lit 3, nat_lit 3, nat_lit 3, nat_lit 3, nat_lit 3, nat_lit 3, nat_lit 1, nat_lit 0, nat_lit 0, nat_lit 0, nat_lit 0, nat_lit 0, nat_lit 3, nat_lit 3])) (.leaf (nat_lit 13, nat_lit 88, nat_lit 0, nat_lit 0, nat_lit 0, nat_lit 0, []))) (.branch (nat_lit 92) (.leaf (nat_lit 23, nat_lit 89, nat_lit 1, nat_lit 63, nat_lit 2049, nat_lit 0, [])) (.leaf (nat_lit 15, nat_lit 92, nat_lit 10, nat_lit 64, nat_lit 10, nat_lit 2217, [nat_lit 3]))))) (.branch (nat_lit 100) (.branch (nat_lit 96) (.leaf (nat_lit 1, nat_lit 95, nat_lit 4, nat_lit 0, nat_lit 0, nat_lit 0, [])) (.branch (nat_lit 99) (.leaf (nat_lit 22, nat_lit 96, nat_lit 4, nat_lit 68, nat_lit 21071010, nat_lit 2106, [nat_lit 3, nat_lit 3, nat_lit 0, nat_lit 3, nat_lit 0, nat_lit 0])) (.leaf (nat_lit 13, nat_lit 99, nat_lit 0, nat_lit 0, nat_lit 0, nat_lit 0, [])))) (.branch (nat_lit 106) (.branch (nat_lit 103) (.leaf (nat_lit 23, nat_lit 100, nat_lit 1, nat_lit 70, nat_lit 2108, nat_lit 40, [])) (.leaf (nat_lit 15, nat_lit 103, nat_lit 10, nat_lit 71, nat_lit 11, nat_lit 2218, [nat_lit 3]))) (.branch (nat_lit 107) (.leaf (nat_lit 1, nat_lit 106, nat_lit 4, nat_lit 0, nat_lit 0, nat_lit 0, [])) (.leaf (nat_lit 22, nat_lit 107, nat_lit 7, nat_lit 75, nat_lit 21341011, nat_lit 2133, [nat_lit 3, nat_lit 3, nat_lit 0, nat_lit 0, nat_lit 0, nat_lit 0, nat_lit 1, nat_lit 0, nat_lit 0, nat_lit 0, nat_lit 0, nat_lit 1])))))))) (.branch (nat_lit 163) (.branch (nat_lit 135) (.branch (nat_lit 122) (.branch (nat_lit 117) (.branch (nat_lit 111) (.leaf (nat_lit 13, nat_lit 110, nat_lit 0, nat_lit 0, nat_lit 0, nat_lit 0, [])) (.branch (nat_lit 114) (.leaf (nat_lit 23, nat_lit 111, nat_lit 1, nat_lit 77, nat_lit 2135, nat_lit 69, [])) (.leaf (nat_lit 15, nat_lit 114, nat_lit 10, nat_lit 78, nat_lit 12, nat_lit 2219, [nat_lit 3])))) (.branch (nat_lit 118) (.leaf (nat_lit 1, nat_lit 117, nat_lit 4, nat_lit 0, nat_lit 0, nat_lit 0, [])) (.branch (nat_lit 121) (.leaf (nat_lit 22, nat_lit 118, nat_lit 7, nat_lit 75, nat_lit 21341011, nat_lit 2133, [nat_lit 3, nat_lit 3, nat_lit 0, nat_lit 0, nat_lit 0, nat_lit 0, nat_lit 1, nat_lit 0, nat_lit 0, nat_lit 0, nat_lit 0, nat_lit 1])) (.leaf (nat_lit 13, nat_lit 121, nat_lit 0, nat_lit 0, nat_lit 0, nat_lit 0, []))))) (.branch (nat_lit 129) (.branch (nat_lit 125) (.leaf (nat_lit 23, nat_lit 122, nat_lit 1, nat_lit 77, nat_lit 2135, nat_lit 69, [])) (.branch (nat_lit 128) (.leaf (nat_lit 15, nat_lit 125, nat_lit 10, nat_lit 82, nat_lit 13, nat_lit 2220, [nat_lit 3])) (.leaf (nat_lit 1, nat_lit 128, nat_lit 4, nat_lit 0, nat_lit 0, nat_lit 0, [])))) (.branch (nat_lit 133) (.branch (nat_lit 130) (.leaf (nat_lit 0, nat_lit 129, nat_lit 0, nat_lit 1, nat_lit 1, nat_lit 0, [])) (.leaf (nat_lit 15, nat_lit 130, nat_lit 10, nat_lit 85, nat_lit 14, nat_lit 2221, [nat_lit 0]))) (.branch (nat_lit 134) (.leaf (nat_lit 1, nat_lit 133, nat_lit 4, nat_lit 0, nat_lit 0, nat_lit 0, [])) (.leaf (nat_lit 0, nat_lit 134, nat_lit 0, nat_lit 0, nat_lit 0, nat_lit 0, [])))))) (.branch (nat_lit 149) (.branch (nat_lit 141) (.branch (nat_lit 138) (.leaf (nat_lit 15, nat_lit 135, nat_lit 10, nat_lit 88, nat_lit 15, nat_lit 2222, [nat_lit 0])) (.branch (nat_lit 139) (.leaf (nat_lit 1, nat_lit 138, nat_lit 4, nat_lit 0, nat_lit 0, nat_lit 0, [])) (.leaf (nat_lit 0, nat_lit 139, nat_lit 1, nat_lit 96, nat_lit 0, nat_lit 0, [])))) (.branch (nat_lit 146) (.branch (nat_lit 143) (.leaf (nat_lit 16, nat_lit 141, nat_lit 0, nat_lit 0, nat_lit 0, nat_lit 1178, [])) (.leaf (nat_lit 15, nat_lit 143, nat_lit 10, nat_lit 91, nat_lit 16, nat_lit 2223, [nat_lit 3]))) (.branch (nat_lit 147) (.leaf (nat_lit 1, nat_lit 146, nat_lit 4, nat_lit 0, nat_lit 0, nat_lit 0, [])) (.leaf (nat_lit 0, nat_lit 147, nat_lit 1, nat_lit 96, nat_lit 0, nat_lit 0, []))))) (.branch (nat_lit 155) (.branch (nat_lit 151) (.leaf (nat_lit 16, nat_lit 149, nat_lit 0, nat_lit 0, nat_lit 0, nat_lit 1178, [])) (.branch (nat_lit 154) (.leaf (nat_lit 15, nat_lit 151, nat_lit 10, nat_lit 95, nat_lit 17, nat_lit 2224, [nat_lit 3])) (.leaf (nat_lit 1, nat_lit 154, nat_lit 4, nat_lit 0, nat_lit 0, nat_lit 0, [])))) (.branch (nat_lit 159) (.branch (nat_lit 157) (.leaf (nat_lit 0, nat_lit 155, nat_lit 1, nat_lit 96, nat_lit 0, nat_lit 0, [])) (.leaf (nat_lit 16, nat_lit 157, nat_lit 0, nat_lit 0, nat_lit 0, nat_lit 1178, []))) (.branch (nat_lit 162) (.leaf (nat_lit 15, nat_lit 159, nat_lit 10, nat_lit 98, nat_lit 18, nat_lit 2225, [nat_lit 3])) (.leaf (nat_lit 0, nat_lit 162, nat_lit 0, nat_lit 0, nat_lit 0, nat_lit 0, []))))))) (.branch (nat_lit 189) (.branch (nat_lit 174) (.branch (nat_lit 166) (.branch (nat_lit 164) (.leaf (nat_lit 2, nat_lit 163, nat_lit 0, nat_lit 1, nat_lit 0, nat_lit 0, [])) (.branch (nat_lit 165) (.leaf (nat_lit 1, nat_lit 164, nat_lit 0, nat_lit 1, nat_lit 0, nat_lit 0, [])) (.leaf (nat_lit 0, nat_lit 165, nat_lit 0, nat_lit 4, nat_lit 0, nat_lit 0, [])))) (.branch (nat_lit 170) (.branch (nat_lit 169) (.leaf (nat_lit 9, nat_lit 166, nat_lit 3, nat_lit 188, nat_lit 0, nat_lit 0, [])) (.leaf (nat_lit 1, nat_lit 169, nat_lit 4, nat_lit 0, nat_lit 0, nat_lit 0, []))) (.branch (nat_lit 173) (.leaf (nat_lit 14, nat_lit 170, nat_lit 10, nat_lit 22, nat_lit 3, nat_lit 2210, [])) (.leaf (nat_lit 1, nat_lit 173, nat_lit 0, nat_lit 1, nat_lit 0, nat_lit 0, []))))) (.branch (nat_lit 181) (.branch (nat_lit 177) (.leaf (nat_lit 22, nat_lit 174, nat_lit 6, nat_lit 20, nat_lit 21841012, nat_lit 1028, [nat_lit 3, nat_lit 1, nat_lit 0, nat_lit 0])) (.branch (nat_lit 178) (.leaf (nat_lit 13, nat_lit 177, nat_lit 0, nat_lit 0, nat_lit 0, nat_lit 0, [])) (.leaf (nat_lit 23, nat_lit 178, nat_lit 1, nat_lit 101, nat_lit 2185, nat_lit 64, [])))) (.branch (nat_lit 185) (.branch (nat_lit 182) (.leaf (nat_lit 21, nat_lit 181, nat_lit 3, nat_lit 0, nat_lit 0, nat_lit 0, [])) (.leaf (nat_lit 3, nat_lit 182, nat_lit 0, nat_lit 1, nat_lit 1, nat_lit 0, []))) (.branch (nat_lit 188) (.leaf (nat_lit 10, nat_lit 185, nat_lit 0, nat_lit 164, nat_lit 0, nat_lit 0, [])) (.leaf (nat_lit 0, nat_lit 188, nat_lit 0, nat_lit 0, nat_lit 0, nat_lit 0, [])))))) (.branch (nat_lit 200) (.branch (nat_lit 192) (.branch (nat_lit 190) (.leaf (nat_lit 2, nat_lit 189, nat_lit 0, nat_lit 1, nat_lit 0, nat_lit 0, [])) (.branch (nat_lit 191) (.leaf (nat_lit 1, nat_lit 190, nat_lit 0, nat_lit 1, nat_lit 0, nat_lit 0, [])) (.leaf (nat_lit 0, nat_lit 191, nat_lit 0, nat_lit 3, nat_lit 0, nat_lit 0, [])))) (.branch (nat_lit 196) (.branch (nat_lit 195) (.leaf (nat_lit 9, nat_lit 192, nat_lit 3, nat_lit 214, nat_lit 0, nat_lit 0, [])) (.leaf (nat_lit 1, nat_lit 195, nat_lit 4, nat_lit 0, nat_lit 0, nat_lit 0, []))) (.branch (nat_lit 199) (.leaf (nat_lit 14, nat_lit 196, nat_lit 10, nat_lit 40, nat_lit 6, nat_lit 2213, [])) (.leaf (nat_lit 1, nat_lit 199, nat_lit 0, nat_lit 1, nat_lit 0, nat_lit 0, []))))) (.branch (nat_lit 207) (.branch (nat_lit 203) (.leaf (nat_lit 22, nat_lit 200, nat_lit 3, nat_lit 33, nat_lit 10771003, nat_lit 1076, [nat_lit 3, nat_lit 3, nat_lit 3, nat_lit 1, nat_lit 0])) (.branch (nat_lit 204) (.leaf (nat_lit 13, nat_lit 203, nat_lit 0, nat_lit 0, nat_lit 0, nat_lit 0, [])) (.leaf (nat_lit 23, nat_lit 204, nat_lit 1, nat_lit 35, nat_lit 1078, nat_lit 33, [])))) (.branch (nat_lit 211) (.branch (nat_lit 208) (.leaf (nat_lit 21, nat_lit 207, nat_lit 3, nat_lit 0, nat_lit 0, nat_lit 0, [])) (.leaf (nat_lit 3, nat_lit 208, nat_lit 0, nat_lit 1, nat_lit 1, nat_lit 0, []))) (.branch (nat_lit 214) (.leaf (nat_lit 10, nat_lit 211, nat_lit 0, nat_lit 190, nat_lit 0, nat_lit 0, [])) (.leaf (nat_lit 24, nat_lit 214, nat_lit 0, nat_lit 0, nat_lit 0, nat_lit 0, []))))))))), [nat_lit 1024, nat_lit 1001, nat_lit 1023, nat_lit 0])
set_option maxRecDepth 100000 in
def q_M110 : qM × List Nat := ((yX10_status, cX10_status, nat_lit 1, some .int, nat_lit 10, nat_lit 2, nat_lit 0, nat_lit 0, nat_lit 0, .branch (nat_lit 1) (.leaf (nat_lit 1, nat_lit 0, nat_lit 4, nat_lit 0, nat_lit 0, nat_lit 0, [])) (.branch (nat_lit 4) (.leaf (nat_lit 14, nat_lit 1, nat_lit 10, nat_lit 9, nat_lit 0, nat_lit 2207, [])) (.leaf (nat_lit 24, nat_lit 4, nat_lit 1, nat_lit 0, nat_lit 0, nat_lit 0, [])))), [nat_lit 3028, nat_lit 1001, nat_lit 3026, nat_lit 3027])
set_option maxRecDepth 100000 in
def q_M111 : qM × List Nat := ((yX10_top, cX10_top, nat_lit 1, some .long, nat_lit 10, nat_lit 2, nat_lit 0, nat_lit 0, nat_lit 0, .branch (nat_lit 1) (.leaf (nat_lit 1, nat_lit 0, nat_lit 4, nat_lit 0, nat_lit 0, nat_lit 0, [])) (.branch (nat_lit 4) (.leaf (nat_lit 14, nat_lit 1, nat_lit 10, nat_lit 13, nat_lit 1, nat_lit 2208, [])) (.leaf (nat_lit 24, nat_lit 4, nat_lit 2, nat_lit 0, nat_lit 0, nat_lit 0, [])))), [nat_lit 3032, nat_lit 1001, nat_lit 3030, nat_lit 3031])
set_option maxRecDepth 100000 in
def q_M112 : qM × List Nat := ((yX10_bottom, cX10_bottom, nat_lit 1, some .long, nat_lit 10, nat_lit 2, nat_lit 0, nat_lit 0, nat_lit 0, .branch (nat_lit 1) (.leaf (nat_lit 1, nat_lit 0, nat_lit 4, nat_lit 0, nat_lit 0, nat_lit 0, [])) (.branch (nat_lit 4) (.leaf (nat_lit 14, nat_lit 1, nat_lit 10, nat_lit 17, nat_lit 2, nat_lit 2209, [])) (.leaf (nat_lit 24, nat_lit 4, nat_lit 2, nat_lit 0, nat_lit 0, nat_lit 0, [])))), [nat_lit 3036, nat_lit 1001, nat_lit 3034, nat_lit 3035])
set_option maxRecDepth 100000 in
def q_M113 : qM × List Nat := ((yX10_answer, cX10_answer, nat_lit 2, some .int, nat_lit 10, nat_lit 2, nat_lit 1, nat_lit 0, nat_lit 0, .branch (nat_lit 2) (.branch (nat_lit 1) (.leaf (nat_lit 1, nat_lit 0, nat_lit 4, nat_lit 0, nat_lit 0, nat_lit 0, [])) (.leaf (nat_lit 0, nat_lit 1, nat_lit 0, nat_lit 0, nat_lit 0, nat_lit 0, []))) (.branch (nat_lit 5) (.leaf (nat_lit 15, nat_lit 2, nat_lit 10, nat_lit 9, nat_lit 0, nat_lit 2207, [nat_lit 0])) (.branch (nat_lit 6) (.leaf (nat_lit 1, nat_lit 5, nat_lit 0, nat_lit 1, nat_lit 0, nat_lit 0, [])) (.leaf (nat_lit 24, nat_lit 6, nat_lit 1, nat_lit 0, nat_lit 0, nat_lit 0, []))))), [nat_lit 4073, nat_lit 1001, nat_lit 4072, nat_lit 14])
set_option maxRecDepth 100000 in
def q_M114 : qM × List Nat := ((yX10_refuse, cX10_refuse, nat_lit 2, some .int, nat_lit 10, nat_lit 2, nat_lit 1, nat_lit 0, nat_lit 0, .branch (nat_lit 2) (.branch (nat_lit 1) (.leaf (nat_lit 1, nat_lit 0, nat_lit 4, nat_lit 0, nat_lit 0, nat_lit 0, [])) (.leaf (nat_lit 1, nat_lit 1, nat_lit 0, nat_lit 1, nat_lit 0, nat_lit 0, []))) (.branch (nat_lit 5) (.leaf (nat_lit 15, nat_lit 2, nat_lit 10, nat_lit 9, nat_lit 0, nat_lit 2207, [nat_lit 0])) (.branch (nat_lit 6) (.leaf (nat_lit 0, nat_lit 5, nat_lit 0, nat_lit 1, nat_lit 1, nat_lit 0, [])) (.leaf (nat_lit 24, nat_lit 6, nat_lit 1, nat_lit 0, nat_lit 0, nat_lit 0, []))))), [nat_lit 3085, nat_lit 1001, nat_lit 3084, nat_lit 3])
set_option maxRecDepth 100000 in
def q_M115 : qM × List Nat := ((yX10_accept, cX10_accept, nat_lit 1, some .boolean, nat_lit 10, nat_lit 2, nat_lit 0, nat_lit 0, nat_lit 0, .branch (nat_lit 2) (.branch (nat_lit 1) (.leaf (nat_lit 1, nat_lit 0, nat_lit 4, nat_lit 0, nat_lit 0, nat_lit 0, [])) (.leaf (nat_lit 0, nat_lit 1, nat_lit 0, nat_lit 0, nat_lit 0, nat_lit 0, []))) (.branch (nat_lit 5) (.leaf (nat_lit 15, nat_lit 2, nat_lit 10, nat_lit 9, nat_lit 0, nat_lit 2207, [nat_lit 0])) (.branch (nat_lit 6) (.leaf (nat_lit 0, nat_lit 5, nat_lit 0, nat_lit 1, nat_lit 0, nat_lit 0, [])) (.leaf (nat_lit 24, nat_lit 6, nat_lit 1, nat_lit 0, nat_lit 0, nat_lit 0, []))))), [nat_lit 3062, nat_lit 1001, nat_lit 3061, nat_lit 2])
set_option maxRecDepth 100000 in
def q_M116 : qM × List Nat := ((yX10_deny, cX10_deny, nat_lit 2, some .boolean, nat_lit 10, nat_lit 2, nat_lit 1, nat_lit 0, nat_lit 0, .branch (nat_lit 2) (.branch (nat_lit 1) (.leaf (nat_lit 1, nat_lit 0, nat_lit 4, nat_lit 0, nat_lit 0, nat_lit 0, [])) (.leaf (nat_lit 1, nat_lit 1, nat_lit 0, nat_lit 1, nat_lit 0, nat_lit 0, []))) (.branch (nat_lit 5) (.leaf (nat_lit 15, nat_lit 2, nat_lit 10, nat_lit 9, nat_lit 0, nat_lit 2207, [nat_lit 0])) (.branch (nat_lit 6) (.leaf (nat_lit 0, nat_lit 5, nat_lit 0, nat_lit 0, nat_lit 0, nat_lit 0, [])) (.leaf (nat_lit 24, nat_lit 6, nat_lit 1, nat_lit 0, nat_lit 0, nat_lit 0, []))))), [nat_lit 3051, nat_lit 1001, nat_lit 3050, nat_lit 1])
set_option maxRecDepth 100000 in
def q_M117 : qM × List Nat := ((yX10_answerOrNothing, cX10_answerOrNothing, nat_lit 2, some .int, nat_lit 10, nat_lit 2, nat_lit 1, nat_lit 0, nat_lit 0, .branch (nat_lit 6) (.branch (nat_lit 2) (.branch (nat_lit 1) (.leaf (nat_lit 1, nat_lit 0, nat_lit 0, nat_lit 1, nat_lit 0, nat_lit 0, [])) (.leaf (nat_lit 0, nat_lit 1, nat_lit 0, nat_lit 1, nat_lit 1, nat_lit 0, []))) (.branch (nat_lit 5) (.leaf (nat_lit 9, nat_lit 2, nat_lit 1, nat_lit 14, nat_lit 0, nat_lit 0, [])) (.leaf (nat_lit 1, nat_lit 5, nat_lit 4, nat_lit 0, nat_lit 0, nat_lit 0, [])))) (.branch (nat_lit 11) (.branch (nat_lit 8) (.leaf (nat_lit 0, nat_lit 6, nat_lit 1, nat_lit 8, nat_lit 0, nat_lit 0, [])) (.leaf (nat_lit 23, nat_lit 8, nat_lit 2, nat_lit 102, nat_lit 3082, nat_lit 114, []))) (.branch (nat_lit 19) (.leaf (nat_lit 10, nat_lit 11, nat_lit 0, nat_lit 19, nat_lit 0, nat_lit 0, [])) (.leaf (nat_lit 24, nat_lit 19, nat_lit 1, nat_lit 0, nat_lit 0, nat_lit 0, []))))), [nat_lit 4171, nat_lit 1001, nat_lit 4170, nat_lit 19])
set_option maxRecDepth 100000 in
def q_M119 : qM × List Nat := ((yX10_isWithin, cX10_isWithin, nat_lit 3, some .boolean, nat_lit 10, nat_lit 0, nat_lit 3, nat_lit 0, nat_lit 0, .branch (nat_lit 7) (.branch (nat_lit 2) (.branch (nat_lit 1) (.leaf (nat_lit 1, nat_lit 0, nat_lit 0, nat_lit 0, nat_lit 0, nat_lit 0, [])) (.leaf (nat_lit 1, nat_lit 1, nat_lit 0, nat_lit 1, nat_lit 0, nat_lit 0, []))) (.branch (nat_lit 5) (.leaf (nat_lit 9, nat_lit 2, nat_lit 2, nat_lit 14, nat_lit 0, nat_lit 0, [])) (.branch (nat_lit 6) (.leaf (nat_lit 1, nat_lit 5, nat_lit 0, nat_lit 0, nat_lit 0, nat_lit 0, [])) (.leaf (nat_lit 1, nat_lit 6, nat_lit 0, nat_lit 2, nat_lit 0, nat_lit 0, []))))) (.branch (nat_lit 11) (.branch (nat_lit 10) (.leaf (nat_lit 9, nat_lit 7, nat_lit 4, nat_lit 14, nat_lit 0, nat_lit 0, [])) (.leaf (nat_lit 0, nat_lit 10, nat_lit 0, nat_lit 1, nat_lit 0, nat_lit 0, []))) (.branch (nat_lit 14) (.leaf (nat_lit 10, nat_lit 11, nat_lit 0, nat_lit 15, nat_lit 0, nat_lit 0, [])) (.branch (nat_lit 15) (.leaf (nat_lit 0, nat_lit 14, nat_lit 0, nat_lit 0, nat_lit 0, nat_lit 0, [])) (.leaf (nat_lit 24, nat_lit 15, nat_lit 1, nat_lit 0, nat_lit 0, nat_lit 0, [])))))), [nat_lit 3047, nat_lit 1001, nat_lit 3046, nat_lit 0])
set_option maxRecDepth 100000 in
def q_M120 : qM × List Nat := ((yX10_trayAt, cX10_trayAt, nat_lit 2, some (.object "HollowWall$Tray"), nat_lit 10, nat_lit 2, nat_lit 1, nat_lit 0, nat_lit 0, .branch (nat_lit 10) (.branch (nat_lit 3) (.branch (nat_lit 1) (.leaf (nat_lit 1, nat_lit 0, nat_lit 0, nat_lit 1, nat_lit 0, nat_lit 0, [])) (.branch (nat_lit 2) (.leaf (nat_lit 0, nat_lit 1, nat_lit 0, nat_lit 0, nat_lit 0, nat_lit 0, [])) (.leaf (nat_lit 0, nat_lit 2, nat_lit 0, nat_lit 3, nat_lit 0, nat_lit 0, [])))) (.branch (nat_lit 6) (.leaf (nat_lit 23, nat_lit 3, nat_lit 0, nat_lit 109, nat_lit 3045, nat_lit 119, [])) (.branch (nat_lit 9) (.leaf (nat_lit 8, nat_lit 6, nat_lit 0, nat_lit 18, nat_lit 0, nat_lit 0, [])) (.leaf (nat_lit 1, nat_lit 9, nat_lit 4, nat_lit 0, nat_lit 0, nat_lit 0, []))))) (.branch (nat_lit 15) (.branch (nat_lit 13) (.leaf (nat_lit 14, nat_lit 10, nat_lit 10, nat_lit 22, nat_lit 3, nat_lit 2210, [])) (.branch (nat_lit 14) (.leaf (nat_lit 1, nat_lit 13, nat_lit 0, nat_lit 1, nat_lit 0, nat_lit 0, [])) (.leaf (nat_lit 20, nat_lit 14, nat_lit 3, nat_lit 0, nat_lit 0, nat_lit 0, [])))) (.branch (nat_lit 18) (.leaf (nat_lit 10, nat_lit 15, nat_lit 0, nat_lit 19, nat_lit 0, nat_lit 0, [])) (.branch (nat_lit 19) (.leaf (nat_lit 0, nat_lit 18, nat_lit 8, nat_lit 0, nat_lit 0, nat_lit 0, [])) (.leaf (nat_lit 24, nat_lit 19, nat_lit 3, nat_lit 0, nat_lit 0, nat_lit 0, [])))))), [nat_lit 3044, nat_lit 1001, nat_lit 3043, nat_lit 0])
set_option maxRecDepth 100000 in
def q_M121 : qM × List Nat := ((yX10_placeStatus, cX10_placeStatus, nat_lit 2, some .int, nat_lit 10, nat_lit 0, nat_lit 2, nat_lit 0, nat_lit 0, .branch (nat_lit 6) (.branch (nat_lit 4) (.branch (nat_lit 1) (.leaf (nat_lit 1, nat_lit 0, nat_lit 4, nat_lit 0, nat_lit 0, nat_lit 0, [])) (.leaf (nat_lit 27, nat_lit 1, nat_lit 0, nat_lit 6, nat_lit 0, nat_lit 0, []))) (.branch (nat_lit 5) (.leaf (nat_lit 0, nat_lit 4, nat_lit 0, nat_lit 1, nat_lit 0, nat_lit 0, [])) (.leaf (nat_lit 24, nat_lit 5, nat_lit 1, nat_lit 0, nat_lit 0, nat_lit 0, [])))) (.branch (nat_lit 10) (.branch (nat_lit 7) (.leaf (nat_lit 1, nat_lit 6, nat_lit 4, nat_lit 0, nat_lit 0, nat_lit 0, [])) (.leaf (nat_lit 14, nat_lit 7, nat_lit 6, nat_lit 113, nat_lit 1, nat_lit 2192, []))) (.branch (nat_lit 13) (.leaf (nat_lit 8, nat_lit 10, nat_lit 0, nat_lit 15, nat_lit 0, nat_lit 0, [])) (.branch (nat_lit 14) (.leaf (nat_lit 0, nat_lit 13, nat_lit 0, nat_lit 3, nat_lit 0, nat_lit 0, [])) (.leaf (nat_lit 24, nat_lit 14, nat_lit 1, nat_lit 0, nat_lit 0, nat_lit 0, [])))))), [nat_lit 3069, nat_lit 1001, nat_lit 3068, nat_lit 0])
set_option maxRecDepth 100000 in
def q_M122 : qM × List Nat := ((yX10_tray, cX10_tray, nat_lit 5, some .boolean, nat_lit 10, nat_lit 2, nat_lit 3, nat_lit 0, nat_lit 0, .branch (nat_lit 30) (.branch (nat_lit 14) (.branch (nat_lit 7) (.branch (nat_lit 2) (.branch (nat_lit 1) (.leaf (nat_lit 1, nat_lit 0, nat_lit 4, nat_lit 0, nat_lit 0, nat_lit 0, [])) (.leaf (nat_lit 1, nat_lit 1, nat_lit 0, nat_lit 1, nat_lit 0, nat_lit 0, []))) (.branch (nat_lit 5) (.leaf (nat_lit 23, nat_lit 2, nat_lit 2, nat_lit 121, nat_lit 3041, nat_lit 120, [])) (.leaf (nat_lit 2, nat_lit 5, nat_lit 5, nat_lit 4, nat_lit 0, nat_lit 0, [])))) (.branch (nat_lit 12) (.branch (nat_lit 9) (.leaf (nat_lit 1, nat_lit 7, nat_lit 5, nat_lit 4, nat_lit 0, nat_lit 0, [])) (.leaf (nat_lit 11, nat_lit 9, nat_lit 0, nat_lit 21, nat_lit 0, nat_lit 0, []))) (.branch (nat_lit 13) (.leaf (nat_lit 1, nat_lit 12, nat_lit 0, nat_lit 2, nat_lit 0, nat_lit 0, [])) (.leaf (nat_lit 0, nat_lit 13, nat_lit 0, nat_lit 0, nat_lit 0, nat_lit 0, []))))) (.branch (nat_lit 22) (.branch (nat_lit 18) (.branch (nat_lit 15) (.leaf (nat_lit 0, nat_lit 14, nat_lit 0, nat_lit 3, nat_lit 0, nat_lit 0, [])) (.leaf (nat_lit 23, nat_lit 15, nat_lit 0, nat_lit 109, nat_lit 3045, nat_lit 119, []))) (.branch (nat_lit 21) (.leaf (nat_lit 8, nat_lit 18, nat_lit 1, nat_lit 27, nat_lit 0, nat_lit 0, [])) (.leaf (nat_lit 1, nat_lit 21, nat_lit 4, nat_lit 0, nat_lit 0, nat_lit 0, [])))) (.branch (nat_lit 26) (.branch (nat_lit 23) (.leaf (nat_lit 0, nat_lit 22, nat_lit 0, nat_lit 1, nat_lit 0, nat_lit 0, [])) (.leaf (nat_lit 23, nat_lit 23, nat_lit 2, nat_lit 125, nat_lit 3048, nat_lit 116, []))) (.branch (nat_lit 27) (.leaf (nat_lit 24, nat_lit 26, nat_lit 1, nat_lit 0, nat_lit 0, nat_lit 0, [])) (.branch (nat_lit 28) (.leaf (nat_lit 1, nat_lit 27, nat_lit 0, nat_lit 3, nat_lit 0, nat_lit 0, [])) (.leaf (nat_lit 0, nat_lit 28, nat_lit 1, nat_lit 60, nat_lit 0, nat_lit 0, []))))))) (.branch (nat_lit 46) (.branch (nat_lit 38) (.branch (nat_lit 34) (.branch (nat_lit 33) (.leaf (nat_lit 9, nat_lit 30, nat_lit 5, nat_lit 39, nat_lit 0, nat_lit 0, [])) (.leaf (nat_lit 1, nat_lit 33, nat_lit 4, nat_lit 0, nat_lit 0, nat_lit 0, []))) (.branch (nat_lit 35) (.leaf (nat_lit 0, nat_lit 34, nat_lit 0, nat_lit 5, nat_lit 0, nat_lit 0, [])) (.leaf (nat_lit 23, nat_lit 35, nat_lit 2, nat_lit 125, nat_lit 3048, nat_lit 116, [])))) (.branch (nat_lit 40) (.branch (nat_lit 39) (.leaf (nat_lit 24, nat_lit 38, nat_lit 1, nat_lit 0, nat_lit 0, nat_lit 0, [])) (.leaf (nat_lit 1, nat_lit 39, nat_lit 0, nat_lit 3, nat_lit 0, nat_lit 0, []))) (.branch (nat_lit 43) (.leaf (nat_lit 8, nat_lit 40, nat_lit 3, nat_lit 50, nat_lit 0, nat_lit 0, [])) (.branch (nat_lit 44) (.leaf (nat_lit 1, nat_lit 43, nat_lit 4, nat_lit 0, nat_lit 0, nat_lit 0, [])) (.leaf (nat_lit 0, nat_lit 44, nat_lit 1, nat_lit 6, nat_lit 0, nat_lit 0, [])))))) (.branch (nat_lit 53) (.branch (nat_lit 50) (.branch (nat_lit 49) (.leaf (nat_lit 23, nat_lit 46, nat_lit 2, nat_lit 125, nat_lit 3048, nat_lit 116, [])) (.leaf (nat_lit 24, nat_lit 49, nat_lit 1, nat_lit 0, nat_lit 0, nat_lit 0, []))) (.branch (nat_lit 52) (.leaf (nat_lit 1, nat_lit 50, nat_lit 5, nat_lit 4, nat_lit 0, nat_lit 0, [])) (.leaf (nat_lit 1, nat_lit 52, nat_lit 0, nat_lit 2, nat_lit 0, nat_lit 0, [])))) (.branch (nat_lit 57) (.branch (nat_lit 54) (.leaf (nat_lit 1, nat_lit 53, nat_lit 0, nat_lit 3, nat_lit 0, nat_lit 0, [])) (.leaf (nat_lit 23, nat_lit 54, nat_lit 2, nat_lit 128, nat_lit 3052, nat_lit 65, []))) (.branch (nat_lit 58) (.leaf (nat_lit 1, nat_lit 57, nat_lit 4, nat_lit 0, nat_lit 0, nat_lit 0, [])) (.branch (nat_lit 61) (.leaf (nat_lit 23, nat_lit 58, nat_lit 2, nat_lit 132, nat_lit 3059, nat_lit 115, [])) (.leaf (nat_lit 24, nat_lit 61, nat_lit 1, nat_lit 0, nat_lit 0, nat_lit 0, [])))))))), [nat_lit 3040, nat_lit 1001, nat_lit 3038, nat_lit 3039])
set_option maxRecDepth 100000 in
def q_M123 : qM × List Nat := ((yX10_write, cX10_write, nat_lit 7, some .boolean, nat_lit 10, nat_lit 2, nat_lit 3, nat_lit 0, nat_lit 0, .branch (nat_lit 15) (.branch (nat_lit 7) (.branch (nat_lit 2) (.branch (nat_lit 1) (.leaf (nat_lit 1, nat_lit 0, nat_lit 4, nat_lit 0, nat_lit 0, nat_lit 0, [])) (.leaf (nat_lit 1, nat_lit 1, nat_lit 0, nat_lit 1, nat_lit 0, nat_lit 0, []))) (.branch (nat_lit 5) (.leaf (nat_lit 23, nat_lit 2, nat_lit 2, nat_lit 121, nat_lit 3041, nat_lit 120, [])) (.leaf (nat_lit 2, nat_lit 5, nat_lit 5, nat_lit 5, nat_lit 0, nat_lit 0, [])))) (.branch (nat_lit 10) (.branch (nat_lit 9) (.leaf (nat_lit 1, nat_lit 7, nat_lit 5, nat_lit 5, nat_lit 0, nat_lit 0, [])) (.leaf (nat_lit 1, nat_lit 9, nat_lit 0, nat_lit 2, nat_lit 0, nat_lit 0, []))) (.branch (nat_lit 13) (.leaf (nat_lit 23, nat_lit 10, nat_lit 0, nat_lit 136, nat_lit 3067, nat_lit 121, [])) (.leaf (nat_lit 2, nat_lit 13, nat_lit 1, nat_lit 6, nat_lit 0, nat_lit 0, []))))) (.branch (nat_lit 25) (.branch (nat_lit 20) (.branch (nat_lit 17) (.leaf (nat_lit 1, nat_lit 15, nat_lit 5, nat_lit 5, nat_lit 0, nat_lit 0, [])) (.leaf (nat_lit 11, nat_lit 17, nat_lit 0, nat_lit 25, nat_lit 0, nat_lit 0, []))) (.branch (nat_lit 22) (.leaf (nat_lit 1, nat_lit 20, nat_lit 1, nat_lit 6, nat_lit 0, nat_lit 0, [])) (.leaf (nat_lit 8, nat_lit 22, nat_lit 0, nat_lit 32, nat_lit 0, nat_lit 0, [])))) (.branch (nat_lit 28) (.branch (nat_lit 26) (.leaf (nat_lit 1, nat_lit 25, nat_lit 4, nat_lit 0, nat_lit 0, nat_lit 0, [])) (.leaf (nat_lit 1, nat_lit 26, nat_lit 1, nat_lit 6, nat_lit 0, nat_lit 0, []))) (.branch (nat_lit 31) (.leaf (nat_lit 23, nat_lit 28, nat_lit 2, nat_lit 125, nat_lit 3048, nat_lit 116, [])) (.leaf (nat_lit 24, nat_lit 31, nat_lit 1, nat_lit 0, nat_lit 0, nat_lit 0, [])))))), [nat_lit 3066, nat_lit 1001, nat_lit 3064, nat_lit 3065])
set_option maxRecDepth 100000 in
def q_M124 : qM × List Nat := ((yX10_read, cX10_read, nat_lit 5, some .long, nat_lit 10, nat_lit 2, nat_lit 2, nat_lit 0, nat_lit 0, .branch (nat_lit 13) (.branch (nat_lit 6) (.branch (nat_lit 2) (.branch (nat_lit 1) (.leaf (nat_lit 1, nat_lit 0, nat_lit 4, nat_lit 0, nat_lit 0, nat_lit 0, [])) (.leaf (nat_lit 1, nat_lit 1, nat_lit 0, nat_lit 1, nat_lit 0, nat_lit 0, []))) (.branch (nat_lit 5) (.leaf (nat_lit 23, nat_lit 2, nat_lit 2, nat_lit 121, nat_lit 3041, nat_lit 120, [])) (.leaf (nat_lit 2, nat_lit 5, nat_lit 4, nat_lit 3, nat_lit 0, nat_lit 0, [])))) (.branch (nat_lit 8) (.branch (nat_lit 7) (.leaf (nat_lit 1, nat_lit 6, nat_lit 4, nat_lit 3, nat_lit 0, nat_lit 0, [])) (.leaf (nat_lit 1, nat_lit 7, nat_lit 0, nat_lit 2, nat_lit 0, nat_lit 0, []))) (.branch (nat_lit 11) (.leaf (nat_lit 23, nat_lit 8, nat_lit 0, nat_lit 136, nat_lit 3067, nat_lit 121, [])) (.leaf (nat_lit 2, nat_lit 11, nat_lit 1, nat_lit 4, nat_lit 0, nat_lit 0, []))))) (.branch (nat_lit 22) (.branch (nat_lit 17) (.branch (nat_lit 14) (.leaf (nat_lit 1, nat_lit 13, nat_lit 4, nat_lit 3, nat_lit 0, nat_lit 0, [])) (.leaf (nat_lit 11, nat_lit 14, nat_lit 0, nat_lit 22, nat_lit 0, nat_lit 0, []))) (.branch (nat_lit 19) (.leaf (nat_lit 1, nat_lit 17, nat_lit 1, nat_lit 4, nat_lit 0, nat_lit 0, [])) (.leaf (nat_lit 8, nat_lit 19, nat_lit 0, nat_lit 30, nat_lit 0, nat_lit 0, [])))) (.branch (nat_lit 25) (.branch (nat_lit 23) (.leaf (nat_lit 1, nat_lit 22, nat_lit 4, nat_lit 0, nat_lit 0, nat_lit 0, [])) (.leaf (nat_lit 1, nat_lit 23, nat_lit 1, nat_lit 4, nat_lit 0, nat_lit 0, []))) (.branch (nat_lit 28) (.leaf (nat_lit 23, nat_lit 25, nat_lit 2, nat_lit 102, nat_lit 3082, nat_lit 114, [])) (.branch (nat_lit 29) (.leaf (nat_lit 6, nat_lit 28, nat_lit 0, nat_lit 0, nat_lit 0, nat_lit 0, [])) (.leaf (nat_lit 24, nat_lit 29, nat_lit 2, nat_lit 0, nat_lit 0, nat_lit 0, []))))))), [nat_lit 3081, nat_lit 1001, nat_lit 3079, nat_lit 3080])
set_option maxRecDepth 100000 in
def q_M125 : qM × List Nat := ((yX10_pour, cX10_pour, nat_lit 8, some .boolean, nat_lit 10, nat_lit 2, nat_lit 5, nat_lit 0, nat_lit 0, .branch (nat_lit 21) (.branch (nat_lit 8) (.branch (nat_lit 2) (.branch (nat_lit 1) (.leaf (nat_lit 1, nat_lit 0, nat_lit 4, nat_lit 0, nat_lit 0, nat_lit 0, [])) (.leaf (nat_lit 1, nat_lit 1, nat_lit 0, nat_lit 1, nat_lit 0, nat_lit 0, []))) (.branch (nat_lit 5) (.leaf (nat_lit 23, nat_lit 2, nat_lit 2, nat_lit 121, nat_lit 3041, nat_lit 120, [])) (.branch (nat_lit 7) (.leaf (nat_lit 2, nat_lit 5, nat_lit 5, nat_lit 6, nat_lit 0, nat_lit 0, [])) (.leaf (nat_lit 1, nat_lit 7, nat_lit 4, nat_lit 0, nat_lit 0, nat_lit 0, []))))) (.branch (nat_lit 14) (.branch (nat_lit 9) (.leaf (nat_lit 1, nat_lit 8, nat_lit 0, nat_lit 3, nat_lit 0, nat_lit 0, [])) (.branch (nat_lit 12) (.leaf (nat_lit 23, nat_lit 9, nat_lit 2, nat_lit 121, nat_lit 3041, nat_lit 120, [])) (.leaf (nat_lit 2, nat_lit 12, nat_lit 5, nat_lit 7, nat_lit 0, nat_lit 0, [])))) (.branch (nat_lit 16) (.leaf (nat_lit 1, nat_lit 14, nat_lit 5, nat_lit 6, nat_lit 0, nat_lit 0, [])) (.branch (nat_lit 19) (.leaf (nat_lit 11, nat_lit 16, nat_lit 0, nat_lit 24, nat_lit 0, nat_lit 0, [])) (.leaf (nat_lit 1, nat_lit 19, nat_lit 5, nat_lit 7, nat_lit 0, nat_lit 0, [])))))) (.branch (nat_lit 32) (.branch (nat_lit 26) (.branch (nat_lit 24) (.leaf (nat_lit 27, nat_lit 21, nat_lit 0, nat_lit 30, nat_lit 0, nat_lit 0, [])) (.branch (nat_lit 25) (.leaf (nat_lit 1, nat_lit 24, nat_lit 4, nat_lit 0, nat_lit 0, nat_lit 0, [])) (.leaf (nat_lit 0, nat_lit 25, nat_lit 0, nat_lit 1, nat_lit 0, nat_lit 0, [])))) (.branch (nat_lit 29) (.leaf (nat_lit 23, nat_lit 26, nat_lit 2, nat_lit 125, nat_lit 3048, nat_lit 116, [])) (.branch (nat_lit 30) (.leaf (nat_lit 24, nat_lit 29, nat_lit 1, nat_lit 0, nat_lit 0, nat_lit 0, [])) (.leaf (nat_lit 1, nat_lit 30, nat_lit 5, nat_lit 6, nat_lit 0, nat_lit 0, []))))) (.branch (nat_lit 47) (.branch (nat_lit 35) (.leaf (nat_lit 14, nat_lit 32, nat_lit 6, nat_lit 113, nat_lit 1, nat_lit 2192, [])) (.branch (nat_lit 46) (.leaf (nat_lit 8, nat_lit 35, nat_lit 1, nat_lit 46, nat_lit 0, nat_lit 0, [])) (.leaf (nat_lit 1, nat_lit 46, nat_lit 4, nat_lit 0, nat_lit 0, nat_lit 0, [])))) (.branch (nat_lit 48) (.leaf (nat_lit 0, nat_lit 47, nat_lit 0, nat_lit 3, nat_lit 0, nat_lit 0, [])) (.branch (nat_lit 51) (.leaf (nat_lit 23, nat_lit 48, nat_lit 2, nat_lit 125, nat_lit 3048, nat_lit 116, [])) (.leaf (nat_lit 24, nat_lit 51, nat_lit 1, nat_lit 0, nat_lit 0, nat_lit 0, []))))))), [nat_lit 3089, nat_lit 1001, nat_lit 3087, nat_lit 3088])
set_option maxRecDepth 100000 in
def q_M126 : qM × List Nat := ((yX10_feed, cX10_feed, nat_lit 6, some .int, nat_lit 10, nat_lit 2, nat_lit 5, nat_lit 0, nat_lit 0, .branch (nat_lit 32) (.branch (nat_lit 19) (.branch (nat_lit 7) (.branch (nat_lit 1) (.leaf (nat_lit 1, nat_lit 0, nat_lit 4, nat_lit 0, nat_lit 0, nat_lit 0, [])) (.branch (nat_lit 4) (.leaf (nat_lit 14, nat_lit 1, nat_lit 10, nat_lit 29, nat_lit 4, nat_lit 2211, [])) (.leaf (nat_lit 14, nat_lit 4, nat_lit 5, nat_lit 161, nat_lit 1, nat_lit 1039, [])))) (.branch (nat_lit 15) (.branch (nat_lit 10) (.leaf (nat_lit 0, nat_lit 7, nat_lit 2, nat_lit 880, nat_lit 0, nat_lit 0, [])) (.leaf (nat_lit 9, nat_lit 10, nat_lit 5, nat_lit 15, nat_lit 0, nat_lit 0, []))) (.branch (nat_lit 16) (.leaf (nat_lit 1, nat_lit 15, nat_lit 4, nat_lit 0, nat_lit 0, nat_lit 0, [])) (.leaf (nat_lit 14, nat_lit 16, nat_lit 10, nat_lit 29, nat_lit 4, nat_lit 2211, []))))) (.branch (nat_lit 24) (.branch (nat_lit 20) (.leaf (nat_lit 1, nat_lit 19, nat_lit 0, nat_lit 1, nat_lit 0, nat_lit 0, [])) (.branch (nat_lit 23) (.leaf (nat_lit 23, nat_lit 20, nat_lit 2, nat_lit 164, nat_lit 3101, nat_lit 49, [])) (.leaf (nat_lit 1, nat_lit 23, nat_lit 4, nat_lit 0, nat_lit 0, nat_lit 0, [])))) (.branch (nat_lit 28) (.branch (nat_lit 27) (.leaf (nat_lit 14, nat_lit 24, nat_lit 10, nat_lit 29, nat_lit 4, nat_lit 2211, [])) (.leaf (nat_lit 1, nat_lit 27, nat_lit 0, nat_lit 2, nat_lit 0, nat_lit 0, []))) (.branch (nat_lit 31) (.leaf (nat_lit 23, nat_lit 28, nat_lit 2, nat_lit 164, nat_lit 3101, nat_lit 49, [])) (.leaf (nat_lit 1, nat_lit 31, nat_lit 4, nat_lit 0, nat_lit 0, nat_lit 0, [])))))) (.branch (nat_lit 48) (.branch (nat_lit 39) (.branch (nat_lit 35) (.leaf (nat_lit 14, nat_lit 32, nat_lit 10, nat_lit 29, nat_lit 4, nat_lit 2211, [])) (.branch (nat_lit 36) (.leaf (nat_lit 1, nat_lit 35, nat_lit 0, nat_lit 3, nat_lit 0, nat_lit 0, [])) (.leaf (nat_lit 23, nat_lit 36, nat_lit 2, nat_lit 164, nat_lit 3101, nat_lit 49, [])))) (.branch (nat_lit 43) (.branch (nat_lit 40) (.leaf (nat_lit 1, nat_lit 39, nat_lit 4, nat_lit 0, nat_lit 0, nat_lit 0, [])) (.leaf (nat_lit 14, nat_lit 40, nat_lit 10, nat_lit 29, nat_lit 4, nat_lit 2211, []))) (.branch (nat_lit 45) (.leaf (nat_lit 1, nat_lit 43, nat_lit 1, nat_lit 4, nat_lit 0, nat_lit 0, [])) (.leaf (nat_lit 23, nat_lit 45, nat_lit 2, nat_lit 164, nat_lit 3101, nat_lit 49, []))))) (.branch (nat_lit 57) (.branch (nat_lit 52) (.branch (nat_lit 49) (.leaf (nat_lit 1, nat_lit 48, nat_lit 4, nat_lit 0, nat_lit 0, nat_lit 0, [])) (.leaf (nat_lit 14, nat_lit 49, nat_lit 10, nat_lit 29, nat_lit 4, nat_lit 2211, []))) (.branch (nat_lit 54) (.leaf (nat_lit 1, nat_lit 52, nat_lit 1, nat_lit 5, nat_lit 0, nat_lit 0, [])) (.leaf (nat_lit 23, nat_lit 54, nat_lit 2, nat_lit 164, nat_lit 3101, nat_lit 49, [])))) (.branch (nat_lit 61) (.branch (nat_lit 58) (.leaf (nat_lit 1, nat_lit 57, nat_lit 4, nat_lit 0, nat_lit 0, nat_lit 0, [])) (.leaf (nat_lit 14, nat_lit 58, nat_lit 10, nat_lit 29, nat_lit 4, nat_lit 2211, []))) (.branch (nat_lit 64) (.leaf (nat_lit 14, nat_lit 61, nat_lit 5, nat_lit 161, nat_lit 1, nat_lit 1039, [])) (.leaf (nat_lit 24, nat_lit 64, nat_lit 1, nat_lit 0, nat_lit 0, nat_lit 0, []))))))), [nat_lit 3100, nat_lit 1001, nat_lit 3098, nat_lit 3099])
set_option maxRecDepth 100000 in
def q_M127 : qM × List Nat := ((yX10_wall, cX10_wall, nat_lit 3, some .int, nat_lit 10, nat_lit 2, nat_lit 1, nat_lit 0, nat_lit 0, .branch (nat_lit 26) (.branch (nat_lit 15) (.branch (nat_lit 3) (.branch (nat_lit 1) (.leaf (nat_lit 1, nat_lit 0, nat_lit 0, nat_lit 1, nat_lit 0, nat_lit 0, [])) (.branch (nat_lit 2) (.leaf (nat_lit 0, nat_lit 1, nat_lit 0, nat_lit 0, nat_lit 0, nat_lit 0, [])) (.leaf (nat_lit 1, nat_lit 2, nat_lit 4, nat_lit 0, nat_lit 0, nat_lit 0, [])))) (.branch (nat_lit 9) (.branch (nat_lit 6) (.leaf (nat_lit 14, nat_lit 3, nat_lit 10, nat_lit 29, nat_lit 4, nat_lit 2211, [])) (.leaf (nat_lit 14, nat_lit 6, nat_lit 5, nat_lit 161, nat_lit 1, nat_lit 1039, []))) (.branch (nat_lit 12) (.leaf (nat_lit 23, nat_lit 9, nat_lit 0, nat_lit 109, nat_lit 3045, nat_lit 119, [])) (.leaf (nat_lit 8, nat_lit 12, nat_lit 1, nat_lit 21, nat_lit 0, nat_lit 0, []))))) (.branch (nat_lit 20) (.branch (nat_lit 16) (.leaf (nat_lit 1, nat_lit 15, nat_lit 4, nat_lit 0, nat_lit 0, nat_lit 0, [])) (.branch (nat_lit 17) (.leaf (nat_lit 0, nat_lit 16, nat_lit 0, nat_lit 5, nat_lit 0, nat_lit 0, [])) (.leaf (nat_lit 23, nat_lit 17, nat_lit 2, nat_lit 102, nat_lit 3082, nat_lit 114, [])))) (.branch (nat_lit 22) (.branch (nat_lit 21) (.leaf (nat_lit 24, nat_lit 20, nat_lit 1, nat_lit 0, nat_lit 0, nat_lit 0, [])) (.leaf (nat_lit 1, nat_lit 21, nat_lit 4, nat_lit 0, nat_lit 0, nat_lit 0, []))) (.branch (nat_lit 25) (.leaf (nat_lit 14, nat_lit 22, nat_lit 10, nat_lit 50, nat_lit 8, nat_lit 2215, [])) (.leaf (nat_lit 1, nat_lit 25, nat_lit 4, nat_lit 0, nat_lit 0, nat_lit 0, [])))))) (.branch (nat_lit 39) (.branch (nat_lit 33) (.branch (nat_lit 29) (.leaf (nat_lit 14, nat_lit 26, nat_lit 10, nat_lit 29, nat_lit 4, nat_lit 2211, [])) (.branch (nat_lit 30) (.leaf (nat_lit 1, nat_lit 29, nat_lit 0, nat_lit 1, nat_lit 0, nat_lit 0, [])) (.leaf (nat_lit 23, nat_lit 30, nat_lit 2, nat_lit 168, nat_lit 3109, nat_lit 101, [])))) (.branch (nat_lit 35) (.branch (nat_lit 34) (.leaf (nat_lit 2, nat_lit 33, nat_lit 0, nat_lit 2, nat_lit 0, nat_lit 0, [])) (.leaf (nat_lit 1, nat_lit 34, nat_lit 4, nat_lit 0, nat_lit 0, nat_lit 0, []))) (.branch (nat_lit 38) (.leaf (nat_lit 14, nat_lit 35, nat_lit 10, nat_lit 29, nat_lit 4, nat_lit 2211, [])) (.leaf (nat_lit 0, nat_lit 38, nat_lit 0, nat_lit 0, nat_lit 0, nat_lit 0, []))))) (.branch (nat_lit 46) (.branch (nat_lit 42) (.leaf (nat_lit 15, nat_lit 39, nat_lit 5, nat_lit 161, nat_lit 1, nat_lit 1039, [nat_lit 0])) (.branch (nat_lit 43) (.leaf (nat_lit 1, nat_lit 42, nat_lit 0, nat_lit 2, nat_lit 0, nat_lit 0, [])) (.leaf (nat_lit 8, nat_lit 43, nat_lit 1, nat_lit 53, nat_lit 0, nat_lit 0, [])))) (.branch (nat_lit 49) (.branch (nat_lit 47) (.leaf (nat_lit 1, nat_lit 46, nat_lit 4, nat_lit 0, nat_lit 0, nat_lit 0, [])) (.leaf (nat_lit 0, nat_lit 47, nat_lit 1, nat_lit 10, nat_lit 0, nat_lit 0, []))) (.branch (nat_lit 52) (.leaf (nat_lit 23, nat_lit 49, nat_lit 2, nat_lit 102, nat_lit 3082, nat_lit 114, [])) (.leaf (nat_lit 24, nat_lit 52, nat_lit 1, nat_lit 0, nat_lit 0, nat_lit 0, []))))))), [nat_lit 3108, nat_lit 1001, nat_lit 3106, nat_lit 3107])
set_option maxRecDepth 100000 in
def q_M128 : qM × List Nat := ((yX10_round, cX10_round, nat_lit 3, some .int, nat_lit 10, nat_lit 2, nat_lit 1, nat_lit 0, nat_lit 0, .branch (nat_lit 44) (.branch (nat_lit 23) (.branch (nat_lit 9) (.branch (nat_lit 2) (.branch (nat_lit 1) (.leaf (nat_lit 1, nat_lit 0, nat_lit 0, nat_lit 1, nat_lit 0, nat_lit 0, [])) (.leaf (nat_lit 0, nat_lit 1, nat_lit 0, nat_lit 0, nat_lit 0, nat_lit 0, []))) (.branch (nat_lit 3) (.leaf (nat_lit 1, nat_lit 2, nat_lit 4, nat_lit 0, nat_lit 0, nat_lit 0, [])) (.branch (nat_lit 6) (.leaf (nat_lit 14, nat_lit 3, nat_lit 10, nat_lit 29, nat_lit 4, nat_lit 2211, [])) (.leaf (nat_lit 14, nat_lit 6, nat_lit 5, nat_lit 161, nat_lit 1, nat_lit 1039, []))))) (.branch (nat_lit 18) (.branch (nat_lit 12) (.leaf (nat_lit 0, nat_lit 9, nat_lit 2, nat_lit 300, nat_lit 0, nat_lit 0, [])) (.branch (nat_lit 15) (.leaf (nat_lit 23, nat_lit 12, nat_lit 0, nat_lit 186, nat_lit 4078, nat_lit 318, [])) (.leaf (nat_lit 23, nat_lit 15, nat_lit 0, nat_lit 109, nat_lit 3045, nat_lit 119, [])))) (.branch (nat_lit 21) (.leaf (nat_lit 8, nat_lit 18, nat_lit 1, nat_lit 27, nat_lit 0, nat_lit 0, [])) (.branch (nat_lit 22) (.leaf (nat_lit 1, nat_lit 21, nat_lit 4, nat_lit 0, nat_lit 0, nat_lit 0, [])) (.leaf (nat_lit 0, nat_lit 22, nat_lit 0, nat_lit 5, nat_lit 0, nat_lit 0, [])))))) (.branch (nat_lit 32) (.branch (nat_lit 27) (.branch (nat_lit 26) (.leaf (nat_lit 23, nat_lit 23, nat_lit 2, nat_lit 102, nat_lit 3082, nat_lit 114, [])) (.leaf (nat_lit 24, nat_lit 26, nat_lit 1, nat_lit 0, nat_lit 0, nat_lit 0, []))) (.branch (nat_lit 28) (.leaf (nat_lit 1, nat_lit 27, nat_lit 4, nat_lit 0, nat_lit 0, nat_lit 0, [])) (.branch (nat_lit 31) (.leaf (nat_lit 14, nat_lit 28, nat_lit 10, nat_lit 57, nat_lit 9, nat_lit 2216, [])) (.leaf (nat_lit 1, nat_lit 31, nat_lit 4, nat_lit 0, nat_lit 0, nat_lit 0, []))))) (.branch (nat_lit 39) (.branch (nat_lit 35) (.leaf (nat_lit 14, nat_lit 32, nat_lit 10, nat_lit 29, nat_lit 4, nat_lit 2211, [])) (.branch (nat_lit 36) (.leaf (nat_lit 1, nat_lit 35, nat_lit 0, nat_lit 1, nat_lit 0, nat_lit 0, [])) (.leaf (nat_lit 23, nat_lit 36, nat_lit 2, nat_lit 192, nat_lit 4079, nat_lit 25, [])))) (.branch (nat_lit 40) (.leaf (nat_lit 2, nat_lit 39, nat_lit 0, nat_lit 2, nat_lit 0, nat_lit 0, [])) (.branch (nat_lit 41) (.leaf (nat_lit 1, nat_lit 40, nat_lit 4, nat_lit 0, nat_lit 0, nat_lit 0, [])) (.leaf (nat_lit 14, nat_lit 41, nat_lit 10, nat_lit 29, nat_lit 4, nat_lit 2211, []))))))) (.branch (nat_lit 76) (.branch (nat_lit 60) (.branch (nat_lit 48) (.branch (nat_lit 45) (.leaf (nat_lit 0, nat_lit 44, nat_lit 0, nat_lit 0, nat_lit 0, nat_lit 0, [])) (.leaf (nat_lit 15, nat_lit 45, nat_lit 5, nat_lit 161, nat_lit 1, nat_lit 1039, [nat_lit 0]))) (.branch (nat_lit 49) (.leaf (nat_lit 1, nat_lit 48, nat_lit 0, nat_lit 2, nat_lit 0, nat_lit 0, [])) (.branch (nat_lit 59) (.leaf (nat_lit 8, nat_lit 49, nat_lit 1, nat_lit 59, nat_lit 0, nat_lit 0, [])) (.leaf (nat_lit 1, nat_lit 59, nat_lit 4, nat_lit 0, nat_lit 0, nat_lit 0, []))))) (.branch (nat_lit 67) (.branch (nat_lit 63) (.leaf (nat_lit 14, nat_lit 60, nat_lit 10, nat_lit 36, nat_lit 5, nat_lit 2212, [])) (.branch (nat_lit 66) (.leaf (nat_lit 14, nat_lit 63, nat_lit 3, nat_lit 195, nat_lit 2, nat_lit 1228, [])) (.leaf (nat_lit 1, nat_lit 66, nat_lit 4, nat_lit 0, nat_lit 0, nat_lit 0, [])))) (.branch (nat_lit 70) (.leaf (nat_lit 14, nat_lit 67, nat_lit 10, nat_lit 57, nat_lit 9, nat_lit 2216, [])) (.branch (nat_lit 73) (.leaf (nat_lit 14, nat_lit 70, nat_lit 2, nat_lit 199, nat_lit 0, nat_lit 2037, [])) (.leaf (nat_lit 23, nat_lit 73, nat_lit 2, nat_lit 200, nat_lit 4139, nat_lit 21, [])))))) (.branch (nat_lit 85) (.branch (nat_lit 80) (.branch (nat_lit 77) (.leaf (nat_lit 1, nat_lit 76, nat_lit 4, nat_lit 0, nat_lit 0, nat_lit 0, [])) (.leaf (nat_lit 14, nat_lit 77, nat_lit 10, nat_lit 36, nat_lit 5, nat_lit 2212, []))) (.branch (nat_lit 81) (.leaf (nat_lit 0, nat_lit 80, nat_lit 0, nat_lit 1, nat_lit 0, nat_lit 0, [])) (.branch (nat_lit 84) (.leaf (nat_lit 15, nat_lit 81, nat_lit 3, nat_lit 206, nat_lit 3, nat_lit 1230, [nat_lit 1])) (.leaf (nat_lit 1, nat_lit 84, nat_lit 4, nat_lit 0, nat_lit 0, nat_lit 0, []))))) (.branch (nat_lit 92) (.branch (nat_lit 86) (.leaf (nat_lit 1, nat_lit 85, nat_lit 4, nat_lit 0, nat_lit 0, nat_lit 0, [])) (.branch (nat_lit 89) (.leaf (nat_lit 14, nat_lit 86, nat_lit 10, nat_lit 36, nat_lit 5, nat_lit 2212, [])) (.leaf (nat_lit 14, nat_lit 89, nat_lit 3, nat_lit 195, nat_lit 2, nat_lit 1228, [])))) (.branch (nat_lit 95) (.leaf (nat_lit 14, nat_lit 92, nat_lit 1, nat_lit 209, nat_lit 0, nat_lit 1187, [])) (.branch (nat_lit 98) (.leaf (nat_lit 23, nat_lit 95, nat_lit 2, nat_lit 106, nat_lit 4070, nat_lit 113, [])) (.leaf (nat_lit 24, nat_lit 98, nat_lit 1, nat_lit 0, nat_lit 0, nat_lit 0, [])))))))), [nat_lit 4077, nat_lit 1001, nat_lit 4075, nat_lit 4076])
set_option maxRecDepth 100000 in
def q_M129 : qM × List Nat := ((yX10_fault, cX10_fault, nat_lit 2, some .int, nat_lit 10, nat_lit 2, nat_lit 1, nat_lit 0, nat_lit 0, .branch (nat_lit 13) (.branch (nat_lit 5) (.branch (nat_lit 1) (.leaf (nat_lit 1, nat_lit 0, nat_lit 0, nat_lit 1, nat_lit 0, nat_lit 0, [])) (.branch (nat_lit 4) (.leaf (nat_lit 8, nat_lit 1, nat_lit 1, nat_lit 12, nat_lit 0, nat_lit 0, [])) (.leaf (nat_lit 1, nat_lit 4, nat_lit 4, nat_lit 0, nat_lit 0, nat_lit 0, [])))) (.branch (nat_lit 11) (.branch (nat_lit 8) (.leaf (nat_lit 14, nat_lit 5, nat_lit 10, nat_lit 29, nat_lit 4, nat_lit 2211, [])) (.leaf (nat_lit 14, nat_lit 8, nat_lit 5, nat_lit 212, nat_lit 2, nat_lit 1041, []))) (.branch (nat_lit 12) (.leaf (nat_lit 24, nat_lit 11, nat_lit 1, nat_lit 0, nat_lit 0, nat_lit 0, [])) (.leaf (nat_lit 1, nat_lit 12, nat_lit 0, nat_lit 1, nat_lit 0, nat_lit 0, []))))) (.branch (nat_lit 21) (.branch (nat_lit 17) (.branch (nat_lit 14) (.leaf (nat_lit 0, nat_lit 13, nat_lit 0, nat_lit 1, nat_lit 0, nat_lit 0, [])) (.leaf (nat_lit 9, nat_lit 14, nat_lit 1, nat_lit 27, nat_lit 0, nat_lit 0, []))) (.branch (nat_lit 18) (.leaf (nat_lit 1, nat_lit 17, nat_lit 4, nat_lit 0, nat_lit 0, nat_lit 0, [])) (.leaf (nat_lit 14, nat_lit 18, nat_lit 10, nat_lit 29, nat_lit 4, nat_lit 2211, [])))) (.branch (nat_lit 27) (.branch (nat_lit 24) (.leaf (nat_lit 14, nat_lit 21, nat_lit 5, nat_lit 215, nat_lit 3, nat_lit 1043, [])) (.leaf (nat_lit 10, nat_lit 24, nat_lit 0, nat_lit 28, nat_lit 0, nat_lit 0, []))) (.branch (nat_lit 28) (.leaf (nat_lit 0, nat_lit 27, nat_lit 0, nat_lit 1, nat_lit 1, nat_lit 0, [])) (.leaf (nat_lit 24, nat_lit 28, nat_lit 1, nat_lit 0, nat_lit 0, nat_lit 0, [])))))), [nat_lit 4147, nat_lit 1001, nat_lit 4145, nat_lit 4146])
set_option maxRecDepth 100000 in
def q_M130 : qM × List Nat := ((yX10_many, cX10_many, nat_lit 2, some .int, nat_lit 10, nat_lit 2, nat_lit 1, nat_lit 0, nat_lit 0, .branch (nat_lit 117) (.branch (nat_lit 82) (.branch (nat_lit 66) (.branch (nat_lit 54) (.branch (nat_lit 52) (.branch (nat_lit 1) (.leaf (nat_lit 1, nat_lit 0, nat_lit 0, nat_lit 1, nat_lit 0, nat_lit 0, [])) (.leaf (nat_lit 12, nat_lit 1, nat_lit 0, nat_lit 181, nat_lit 51, nat_lit 0, [nat_lit 52, nat_lit 67, nat_lit 82, nat_lit 97, nat_lit 112, nat_lit 127, nat_lit 142, nat_lit 157, nat_lit 169]))) (.branch (nat_lit 53) (.leaf (nat_lit 1, nat_lit 52, nat_lit 4, nat_lit 0, nat_lit 0, nat_lit 0, [])) (.leaf (nat_lit 1, nat_lit 53, nat_lit 4, nat_lit 0, nat_lit 0, nat_lit 0, [])))) (.branch (nat_lit 60) (.branch (nat_lit 57) (.leaf (nat_lit 14, nat_lit 54, nat_lit 10, nat_lit 36, nat_lit 5, nat_lit 2212, [])) (.leaf (nat_lit 14, nat_lit 57, nat_lit 3, nat_lit 180, nat_lit 0, nat_lit 1221, []))) (.branch (nat_lit 63) (.leaf (nat_lit 14, nat_lit 60, nat_lit 8, nat_lit 181, nat_lit 2, nat_lit 1103, [])) (.leaf (nat_lit 23, nat_lit 63, nat_lit 2, nat_lit 106, nat_lit 4070, nat_lit 113, []))))) (.branch (nat_lit 72) (.branch (nat_lit 68) (.branch (nat_lit 67) (.leaf (nat_lit 24, nat_lit 66, nat_lit 1, nat_lit 0, nat_lit 0, nat_lit 0, [])) (.leaf (nat_lit 1, nat_lit 67, nat_lit 4, nat_lit 0, nat_lit 0, nat_lit 0, []))) (.branch (nat_lit 69) (.leaf (nat_lit 1, nat_lit 68, nat_lit 4, nat_lit 0, nat_lit 0, nat_lit 0, [])) (.leaf (nat_lit 14, nat_lit 69, nat_lit 10, nat_lit 36, nat_lit 5, nat_lit 2212, [])))) (.branch (nat_lit 78) (.branch (nat_lit 75) (.leaf (nat_lit 14, nat_lit 72, nat_lit 3, nat_lit 180, nat_lit 0, nat_lit 1221, [])) (.leaf (nat_lit 14, nat_lit 75, nat_lit 8, nat_lit 218, nat_lit 3, nat_lit 1106, []))) (.branch (nat_lit 81) (.leaf (nat_lit 23, nat_lit 78, nat_lit 2, nat_lit 106, nat_lit 4070, nat_lit 113, [])) (.leaf (nat_lit 24, nat_lit 81, nat_lit 1, nat_lit 0, nat_lit 0, nat_lit 0, [])))))) (.branch (nat_lit 98) (.branch (nat_lit 90) (.branch (nat_lit 84) (.branch (nat_lit 83) (.leaf (nat_lit 1, nat_lit 82, nat_lit 4, nat_lit 0, nat_lit 0, nat_lit 0, [])) (.leaf (nat_lit 1, nat_lit 83, nat_lit 4, nat_lit 0, nat_lit 0, nat_lit 0, []))) (.branch (nat_lit 87) (.leaf (nat_lit 14, nat_lit 84, nat_lit 10, nat_lit 36, nat_lit 5, nat_lit 2212, [])) (.leaf (nat_lit 14, nat_lit 87, nat_lit 3, nat_lit 180, nat_lit 0, nat_lit 1221, [])))) (.branch (nat_lit 96) (.branch (nat_lit 93) (.leaf (nat_lit 14, nat_lit 90, nat_lit 8, nat_lit 221, nat_lit 4, nat_lit 1109, [])) (.leaf (nat_lit 23, nat_lit 93, nat_lit 2, nat_lit 106, nat_lit 4070, nat_lit 113, []))) (.branch (nat_lit 97) (.leaf (nat_lit 24, nat_lit 96, nat_lit 1, nat_lit 0, nat_lit 0, nat_lit 0, [])) (.leaf (nat_lit 1, nat_lit 97, nat_lit 4, nat_lit 0, nat_lit 0, nat_lit 0, []))))) (.branch (nat_lit 108) (.branch (nat_lit 102) (.branch (nat_lit 99) (.leaf (nat_lit 1, nat_lit 98, nat_lit 4, nat_lit 0, nat_lit 0, nat_lit 0, [])) (.leaf (nat_lit 14, nat_lit 99, nat_lit 10, nat_lit 36, nat_lit 5, nat_lit 2212, []))) (.branch (nat_lit 105) (.leaf (nat_lit 14, nat_lit 102, nat_lit 3, nat_lit 180, nat_lit 0, nat_lit 1221, [])) (.leaf (nat_lit 14, nat_lit 105, nat_lit 8, nat_lit 224, nat_lit 5, nat_lit 1112, [])))) (.branch (nat_lit 112) (.branch (nat_lit 111) (.leaf (nat_lit 23, nat_lit 108, nat_lit 2, nat_lit 106, nat_lit 4070, nat_lit 113, [])) (.leaf (nat_lit 24, nat_lit 111, nat_lit 1, nat_lit 0, nat_lit 0, nat_lit 0, []))) (.branch (nat_lit 113) (.leaf (nat_lit 1, nat_lit 112, nat_lit 4, nat_lit 0, nat_lit 0, nat_lit 0, [])) (.branch (nat_lit 114) (.leaf (nat_lit 1, nat_lit 113, nat_lit 4, nat_lit 0, nat_lit 0, nat_lit 0, [])) (.leaf (nat_lit 14, nat_lit 114, nat_lit 10, nat_lit 36, nat_lit 5, nat_lit 2212, [])))))))) (.branch (nat_lit 156) (.branch (nat_lit 135) (.branch (nat_lit 127) (.branch (nat_lit 123) (.branch (nat_lit 120) (.leaf (nat_lit 14, nat_lit 117, nat_lit 3, nat_lit 180, nat_lit 0, nat_lit 1221, [])) (.leaf (nat_lit 14, nat_lit 120, nat_lit 8, nat_lit 227, nat_lit 6, nat_lit 1115, []))) (.branch (nat_lit 126) (.leaf (nat_lit 23, nat_lit 123, nat_lit 2, nat_lit 106, nat_lit 4070, nat_lit 113, [])) (.leaf (nat_lit 24, nat_lit 126, nat_lit 1, nat_lit 0, nat_lit 0, nat_lit 0, [])))) (.branch (nat_lit 129) (.branch (nat_lit 128) (.leaf (nat_lit 1, nat_lit 127, nat_lit 4, nat_lit 0, nat_lit 0, nat_lit 0, [])) (.leaf (nat_lit 1, nat_lit 128, nat_lit 4, nat_lit 0, nat_lit 0, nat_lit 0, []))) (.branch (nat_lit 132) (.leaf (nat_lit 14, nat_lit 129, nat_lit 10, nat_lit 36, nat_lit 5, nat_lit 2212, [])) (.leaf (nat_lit 14, nat_lit 132, nat_lit 3, nat_lit 180, nat_lit 0, nat_lit 1221, []))))) (.branch (nat_lit 143) (.branch (nat_lit 141) (.branch (nat_lit 138) (.leaf (nat_lit 14, nat_lit 135, nat_lit 8, nat_lit 230, nat_lit 0, nat_lit 1092, [])) (.leaf (nat_lit 23, nat_lit 138, nat_lit 2, nat_lit 106, nat_lit 4070, nat_lit 113, []))) (.branch (nat_lit 142) (.leaf (nat_lit 24, nat_lit 141, nat_lit 1, nat_lit 0, nat_lit 0, nat_lit 0, [])) (.leaf (nat_lit 1, nat_lit 142, nat_lit 4, nat_lit 0, nat_lit 0, nat_lit 0, [])))) (.branch (nat_lit 147) (.branch (nat_lit 144) (.leaf (nat_lit 1, nat_lit 143, nat_lit 4, nat_lit 0, nat_lit 0, nat_lit 0, [])) (.leaf (nat_lit 14, nat_lit 144, nat_lit 10, nat_lit 36, nat_lit 5, nat_lit 2212, []))) (.branch (nat_lit 150) (.leaf (nat_lit 14, nat_lit 147, nat_lit 3, nat_lit 180, nat_lit 0, nat_lit 1221, [])) (.branch (nat_lit 153) (.leaf (nat_lit 14, nat_lit 150, nat_lit 8, nat_lit 233, nat_lit 1, nat_lit 1097, [])) (.leaf (nat_lit 23, nat_lit 153, nat_lit 2, nat_lit 106, nat_lit 4070, nat_lit 113, []))))))) (.branch (nat_lit 170) (.branch (nat_lit 162) (.branch (nat_lit 158) (.branch (nat_lit 157) (.leaf (nat_lit 24, nat_lit 156, nat_lit 1, nat_lit 0, nat_lit 0, nat_lit 0, [])) (.leaf (nat_lit 1, nat_lit 157, nat_lit 4, nat_lit 0, nat_lit 0, nat_lit 0, []))) (.branch (nat_lit 159) (.leaf (nat_lit 1, nat_lit 158, nat_lit 4, nat_lit 0, nat_lit 0, nat_lit 0, [])) (.leaf (nat_lit 14, nat_lit 159, nat_lit 10, nat_lit 36, nat_lit 5, nat_lit 2212, [])))) (.branch (nat_lit 168) (.branch (nat_lit 165) (.leaf (nat_lit 14, nat_lit 162, nat_lit 3, nat_lit 236, nat_lit 4, nat_lit 1233, [])) (.leaf (nat_lit 23, nat_lit 165, nat_lit 2, nat_lit 106, nat_lit 4070, nat_lit 113, []))) (.branch (nat_lit 169) (.leaf (nat_lit 24, nat_lit 168, nat_lit 1, nat_lit 0, nat_lit 0, nat_lit 0, [])) (.leaf (nat_lit 1, nat_lit 169, nat_lit 4, nat_lit 0, nat_lit 0, nat_lit 0, []))))) (.branch (nat_lit 180) (.branch (nat_lit 174) (.branch (nat_lit 171) (.leaf (nat_lit 1, nat_lit 170, nat_lit 4, nat_lit 0, nat_lit 0, nat_lit 0, [])) (.leaf (nat_lit 14, nat_lit 171, nat_lit 10, nat_lit 36, nat_lit 5, nat_lit 2212, []))) (.branch (nat_lit 177) (.leaf (nat_lit 23, nat_lit 174, nat_lit 2, nat_lit 239, nat_lit 4152, nat_lit 36, [])) (.leaf (nat_lit 23, nat_lit 177, nat_lit 2, nat_lit 106, nat_lit 4070, nat_lit 113, [])))) (.branch (nat_lit 182) (.branch (nat_lit 181) (.leaf (nat_lit 24, nat_lit 180, nat_lit 1, nat_lit 0, nat_lit 0, nat_lit 0, [])) (.leaf (nat_lit 1, nat_lit 181, nat_lit 4, nat_lit 0, nat_lit 0, nat_lit 0, []))) (.branch (nat_lit 183) (.leaf (nat_lit 0, nat_lit 182, nat_lit 0, nat_lit 5, nat_lit 0, nat_lit 0, [])) (.branch (nat_lit 186) (.leaf (nat_lit 23, nat_lit 183, nat_lit 2, nat_lit 102, nat_lit 3082, nat_lit 114, [])) (.leaf (nat_lit 24, nat_lit 186, nat_lit 1, nat_lit 0, nat_lit 0, nat_lit 0, []))))))))), [nat_lit 4151, nat_lit 1001, nat_lit 4149, nat_lit 4150])
set_option maxRecDepth 100000 in
def q_M131 : qM × List Nat := ((yX10_stone, cX10_stone, nat_lit 4, some .int, nat_lit 10, nat_lit 2, nat_lit 2, nat_lit 0, nat_lit 0, .branch (nat_lit 10) (.branch (nat_lit 7) (.branch (nat_lit 1) (.leaf (nat_lit 1, nat_lit 0, nat_lit 4, nat_lit 0, nat_lit 0, nat_lit 0, [])) (.branch (nat_lit 4) (.leaf (nat_lit 14, nat_lit 1, nat_lit 10, nat_lit 36, nat_lit 5, nat_lit 2212, [])) (.leaf (nat_lit 14, nat_lit 4, nat_lit 3, nat_lit 180, nat_lit 0, nat_lit 1221, [])))) (.branch (nat_lit 8) (.leaf (nat_lit 2, nat_lit 7, nat_lit 4, nat_lit 3, nat_lit 0, nat_lit 0, [])) (.branch (nat_lit 9) (.leaf (nat_lit 1, nat_lit 8, nat_lit 4, nat_lit 3, nat_lit 0, nat_lit 0, [])) (.leaf (nat_lit 1, nat_lit 9, nat_lit 0, nat_lit 1, nat_lit 0, nat_lit 0, []))))) (.branch (nat_lit 17) (.branch (nat_lit 13) (.leaf (nat_lit 23, nat_lit 10, nat_lit 2, nat_lit 243, nat_lit 4160, nat_lit 80, [])) (.branch (nat_lit 16) (.leaf (nat_lit 8, nat_lit 13, nat_lit 1, nat_lit 22, nat_lit 0, nat_lit 0, [])) (.leaf (nat_lit 1, nat_lit 16, nat_lit 4, nat_lit 0, nat_lit 0, nat_lit 0, [])))) (.branch (nat_lit 18) (.leaf (nat_lit 0, nat_lit 17, nat_lit 0, nat_lit 2, nat_lit 0, nat_lit 0, [])) (.branch (nat_lit 21) (.leaf (nat_lit 23, nat_lit 18, nat_lit 2, nat_lit 102, nat_lit 3082, nat_lit 114, [])) (.leaf (nat_lit 24, nat_lit 21, nat_lit 1, nat_lit 0, nat_lit 0, nat_lit 0, [])))))), [nat_lit 4159, nat_lit 1001, nat_lit 4157, nat_lit 4158])
set_option maxRecDepth 100000 in
def q_M132 : qM × List Nat := ((yX10_mason, cX10_mason, nat_lit 4, some .int, nat_lit 10, nat_lit 2, nat_lit 2, nat_lit 0, nat_lit 0, .branch (nat_lit 10) (.branch (nat_lit 7) (.branch (nat_lit 1) (.leaf (nat_lit 1, nat_lit 0, nat_lit 4, nat_lit 0, nat_lit 0, nat_lit 0, [])) (.branch (nat_lit 4) (.leaf (nat_lit 14, nat_lit 1, nat_lit 10, nat_lit 36, nat_lit 5, nat_lit 2212, [])) (.leaf (nat_lit 14, nat_lit 4, nat_lit 3, nat_lit 180, nat_lit 0, nat_lit 1221, [])))) (.branch (nat_lit 8) (.leaf (nat_lit 2, nat_lit 7, nat_lit 4, nat_lit 3, nat_lit 0, nat_lit 0, [])) (.branch (nat_lit 9) (.leaf (nat_lit 1, nat_lit 8, nat_lit 4, nat_lit 3, nat_lit 0, nat_lit 0, [])) (.leaf (nat_lit 1, nat_lit 9, nat_lit 0, nat_lit 1, nat_lit 0, nat_lit 0, []))))) (.branch (nat_lit 17) (.branch (nat_lit 13) (.leaf (nat_lit 23, nat_lit 10, nat_lit 2, nat_lit 273, nat_lit 4180, nat_lit 81, [])) (.branch (nat_lit 16) (.leaf (nat_lit 8, nat_lit 13, nat_lit 1, nat_lit 22, nat_lit 0, nat_lit 0, [])) (.leaf (nat_lit 1, nat_lit 16, nat_lit 4, nat_lit 0, nat_lit 0, nat_lit 0, [])))) (.branch (nat_lit 18) (.leaf (nat_lit 0, nat_lit 17, nat_lit 0, nat_lit 2, nat_lit 0, nat_lit 0, [])) (.branch (nat_lit 21) (.leaf (nat_lit 23, nat_lit 18, nat_lit 2, nat_lit 102, nat_lit 3082, nat_lit 114, [])) (.leaf (nat_lit 24, nat_lit 21, nat_lit 1, nat_lit 0, nat_lit 0, nat_lit 0, [])))))), [nat_lit 4179, nat_lit 1001, nat_lit 4177, nat_lit 4178])
set_option maxRecDepth 100000 in
def q_M133 : qM × List Nat := ((yX10_hollows, cX10_hollows, nat_lit 6, some .int, nat_lit 10, nat_lit 2, nat_lit 2, nat_lit 0, nat_lit 0, .branch (nat_lit 10) (.branch (nat_lit 7) (.branch (nat_lit 1) (.leaf (nat_lit 1, nat_lit 0, nat_lit 4, nat_lit 0, nat_lit 0, nat_lit 0, [])) (.branch (nat_lit 4) (.leaf (nat_lit 14, nat_lit 1, nat_lit 10, nat_lit 36, nat_lit 5, nat_lit 2212, [])) (.leaf (nat_lit 14, nat_lit 4, nat_lit 3, nat_lit 180, nat_lit 0, nat_lit 1221, [])))) (.branch (nat_lit 8) (.leaf (nat_lit 2, nat_lit 7, nat_lit 4, nat_lit 3, nat_lit 0, nat_lit 0, [])) (.branch (nat_lit 9) (.leaf (nat_lit 1, nat_lit 8, nat_lit 4, nat_lit 3, nat_lit 0, nat_lit 0, [])) (.leaf (nat_lit 1, nat_lit 9, nat_lit 0, nat_lit 1, nat_lit 0, nat_lit 0, []))))) (.branch (nat_lit 25) (.branch (nat_lit 13) (.leaf (nat_lit 23, nat_lit 10, nat_lit 2, nat_lit 243, nat_lit 4160, nat_lit 80, [])) (.branch (nat_lit 24) (.leaf (nat_lit 8, nat_lit 13, nat_lit 0, nat_lit 24, nat_lit 0, nat_lit 0, [])) (.leaf (nat_lit 1, nat_lit 24, nat_lit 4, nat_lit 0, nat_lit 0, nat_lit 0, [])))) (.branch (nat_lit 26) (.leaf (nat_lit 0, nat_lit 25, nat_lit 0, nat_lit 2, nat_lit 0, nat_lit 0, [])) (.branch (nat_lit 29) (.leaf (nat_lit 23, nat_lit 26, nat_lit 2, nat_lit 102, nat_lit 3082, nat_lit 114, [])) (.leaf (nat_lit 24, nat_lit 29, nat_lit 1, nat_lit 0, nat_lit 0, nat_lit 0, [])))))), [nat_lit 4191, nat_lit 1001, nat_lit 4189, nat_lit 4190])
set_option maxRecDepth 100000 in
def q_M134 : qM × List Nat := ((yX10_hollowAt, cX10_hollowAt, nat_lit 4, some .int, nat_lit 10, nat_lit 2, nat_lit 1, nat_lit 0, nat_lit 0, .branch (nat_lit 9) (.branch (nat_lit 3) (.branch (nat_lit 1) (.leaf (nat_lit 0, nat_lit 0, nat_lit 0, nat_lit 0, nat_lit 0, nat_lit 0, [])) (.branch (nat_lit 2) (.leaf (nat_lit 2, nat_lit 1, nat_lit 0, nat_lit 2, nat_lit 0, nat_lit 0, [])) (.leaf (nat_lit 0, nat_lit 2, nat_lit 0, nat_lit 0, nat_lit 0, nat_lit 0, [])))) (.branch (nat_lit 5) (.branch (nat_lit 4) (.leaf (nat_lit 2, nat_lit 3, nat_lit 0, nat_lit 3, nat_lit 0, nat_lit 0, [])) (.leaf (nat_lit 1, nat_lit 4, nat_lit 0, nat_lit 3, nat_lit 0, nat_lit 0, []))) (.branch (nat_lit 6) (.leaf (nat_lit 1, nat_lit 5, nat_lit 4, nat_lit 0, nat_lit 0, nat_lit 0, [])) (.leaf (nat_lit 14, nat_lit 6, nat_lit 10, nat_lit 36, nat_lit 5, nat_lit 2212, []))))) (.branch (nat_lit 52) (.branch (nat_lit 12) (.leaf (nat_lit 14, nat_lit 9, nat_lit 3, nat_lit 180, nat_lit 0, nat_lit 1221, [])) (.branch (nat_lit 15) (.leaf (nat_lit 14, nat_lit 12, nat_lit 8, nat_lit 181, nat_lit 2, nat_lit 1103, [])) (.leaf (nat_lit 9, nat_lit 15, nat_lit 3, nat_lit 52, nat_lit 0, nat_lit 0, [])))) (.branch (nat_lit 55) (.branch (nat_lit 53) (.leaf (nat_lit 1, nat_lit 52, nat_lit 4, nat_lit 0, nat_lit 0, nat_lit 0, [])) (.leaf (nat_lit 0, nat_lit 53, nat_lit 1, nat_lit 8, nat_lit 0, nat_lit 0, []))) (.branch (nat_lit 58) (.leaf (nat_lit 23, nat_lit 55, nat_lit 2, nat_lit 102, nat_lit 3082, nat_lit 114, [])) (.leaf (nat_lit 24, nat_lit 58, nat_lit 1, nat_lit 0, nat_lit 0, nat_lit 0, [])))))), [nat_lit 4195, nat_lit 1001, nat_lit 4193, nat_lit 4194])
set_option maxRecDepth 100000 in
def q_M135 : qM × List Nat := ((yX10_nextHollow, cX10_nextHollow, nat_lit 3, some .int, nat_lit 10, nat_lit 2, nat_lit 1, nat_lit 0, nat_lit 0, .branch (nat_lit 11) (.branch (nat_lit 4) (.branch (nat_lit 1) (.leaf (nat_lit 1, nat_lit 0, nat_lit 4, nat_lit 0, nat_lit 0, nat_lit 0, [])) (.leaf (nat_lit 14, nat_lit 1, nat_lit 10, nat_lit 36, nat_lit 5, nat_lit 2212, []))) (.branch (nat_lit 7) (.leaf (nat_lit 14, nat_lit 4, nat_lit 3, nat_lit 180, nat_lit 0, nat_lit 1221, [])) (.branch (nat_lit 8) (.leaf (nat_lit 1, nat_lit 7, nat_lit 0, nat_lit 1, nat_lit 0, nat_lit 0, [])) (.leaf (nat_lit 23, nat_lit 8, nat_lit 2, nat_lit 243, nat_lit 4160, nat_lit 80, []))))) (.branch (nat_lit 15) (.branch (nat_lit 14) (.leaf (nat_lit 8, nat_lit 11, nat_lit 1, nat_lit 20, nat_lit 0, nat_lit 0, [])) (.leaf (nat_lit 1, nat_lit 14, nat_lit 4, nat_lit 0, nat_lit 0, nat_lit 0, []))) (.branch (nat_lit 16) (.leaf (nat_lit 0, nat_lit 15, nat_lit 0, nat_lit 2, nat_lit 0, nat_lit 0, [])) (.branch (nat_lit 19) (.leaf (nat_lit 23, nat_lit 16, nat_lit 2, nat_lit 102, nat_lit 3082, nat_lit 114, [])) (.leaf (nat_lit 24, nat_lit 19, nat_lit 1, nat_lit 0, nat_lit 0, nat_lit 0, [])))))), [nat_lit 4199, nat_lit 1001, nat_lit 4197, nat_lit 4198])
set_option maxRecDepth 100000 in
def q_M136 : qM × List Nat := ((yX10_gap, cX10_gap, nat_lit 4, some .int, nat_lit 10, nat_lit 2, nat_lit 0, nat_lit 0, nat_lit 0, .branch (nat_lit 8) (.branch (nat_lit 4) (.branch (nat_lit 2) (.branch (nat_lit 1) (.leaf (nat_lit 0, nat_lit 0, nat_lit 0, nat_lit 0, nat_lit 0, nat_lit 0, [])) (.leaf (nat_lit 2, nat_lit 1, nat_lit 0, nat_lit 1, nat_lit 0, nat_lit 0, []))) (.branch (nat_lit 3) (.leaf (nat_lit 0, nat_lit 2, nat_lit 0, nat_lit 0, nat_lit 0, nat_lit 0, [])) (.leaf (nat_lit 2, nat_lit 3, nat_lit 0, nat_lit 2, nat_lit 0, nat_lit 0, [])))) (.branch (nat_lit 6) (.branch (nat_lit 5) (.leaf (nat_lit 0, nat_lit 4, nat_lit 0, nat_lit 0, nat_lit 0, nat_lit 0, [])) (.leaf (nat_lit 2, nat_lit 5, nat_lit 0, nat_lit 3, nat_lit 0, nat_lit 0, []))) (.branch (nat_lit 7) (.leaf (nat_lit 1, nat_lit 6, nat_lit 0, nat_lit 3, nat_lit 0, nat_lit 0, [])) (.leaf (nat_lit 1, nat_lit 7, nat_lit 4, nat_lit 0, nat_lit 0, nat_lit 0, []))))) (.branch (nat_lit 54) (.branch (nat_lit 14) (.branch (nat_lit 11) (.leaf (nat_lit 14, nat_lit 8, nat_lit 10, nat_lit 36, nat_lit 5, nat_lit 2212, [])) (.leaf (nat_lit 14, nat_lit 11, nat_lit 3, nat_lit 180, nat_lit 0, nat_lit 1221, []))) (.branch (nat_lit 17) (.leaf (nat_lit 14, nat_lit 14, nat_lit 8, nat_lit 181, nat_lit 2, nat_lit 1103, [])) (.leaf (nat_lit 9, nat_lit 17, nat_lit 3, nat_lit 54, nat_lit 0, nat_lit 0, [])))) (.branch (nat_lit 56) (.branch (nat_lit 55) (.leaf (nat_lit 1, nat_lit 54, nat_lit 4, nat_lit 0, nat_lit 0, nat_lit 0, [])) (.leaf (nat_lit 1, nat_lit 55, nat_lit 0, nat_lit 1, nat_lit 0, nat_lit 0, []))) (.branch (nat_lit 59) (.leaf (nat_lit 23, nat_lit 56, nat_lit 2, nat_lit 106, nat_lit 4070, nat_lit 113, [])) (.leaf (nat_lit 24, nat_lit 59, nat_lit 1, nat_lit 0, nat_lit 0, nat_lit 0, [])))))), [nat_lit 4203, nat_lit 1001, nat_lit 4201, nat_lit 4202])
set_option maxRecDepth 100000 in
def q_M137 : qM × List Nat := ((yX10_shift, cX10_shift, nat_lit 4, some .int, nat_lit 10, nat_lit 2, nat_lit 1, nat_lit 0, nat_lit 0, .branch (nat_lit 10) (.branch (nat_lit 7) (.branch (nat_lit 1) (.leaf (nat_lit 1, nat_lit 0, nat_lit 4, nat_lit 0, nat_lit 0, nat_lit 0, [])) (.branch (nat_lit 4) (.leaf (nat_lit 14, nat_lit 1, nat_lit 10, nat_lit 36, nat_lit 5, nat_lit 2212, [])) (.leaf (nat_lit 14, nat_lit 4, nat_lit 3, nat_lit 180, nat_lit 0, nat_lit 1221, [])))) (.branch (nat_lit 8) (.leaf (nat_lit 2, nat_lit 7, nat_lit 4, nat_lit 2, nat_lit 0, nat_lit 0, [])) (.branch (nat_lit 9) (.leaf (nat_lit 1, nat_lit 8, nat_lit 4, nat_lit 2, nat_lit 0, nat_lit 0, [])) (.leaf (nat_lit 1, nat_lit 9, nat_lit 0, nat_lit 1, nat_lit 0, nat_lit 0, []))))) (.branch (nat_lit 17) (.branch (nat_lit 13) (.leaf (nat_lit 23, nat_lit 10, nat_lit 2, nat_lit 243, nat_lit 4160, nat_lit 80, [])) (.branch (nat_lit 16) (.leaf (nat_lit 8, nat_lit 13, nat_lit 1, nat_lit 22, nat_lit 0, nat_lit 0, [])) (.leaf (nat_lit 1, nat_lit 16, nat_lit 4, nat_lit 0, nat_lit 0, nat_lit 0, [])))) (.branch (nat_lit 18) (.leaf (nat_lit 0, nat_lit 17, nat_lit 0, nat_lit 2, nat_lit 0, nat_lit 0, [])) (.branch (nat_lit 21) (.leaf (nat_lit 23, nat_lit 18, nat_lit 2, nat_lit 102, nat_lit 3082, nat_lit 114, [])) (.leaf (nat_lit 24, nat_lit 21, nat_lit 1, nat_lit 0, nat_lit 0, nat_lit 0, [])))))), [nat_lit 4210, nat_lit 1001, nat_lit 4208, nat_lit 4209])
set_option maxRecDepth 100000 in
def q_M138 : qM × List Nat := ((yX10_price, cX10_price, nat_lit 3, some .int, nat_lit 10, nat_lit 2, nat_lit 0, nat_lit 0, nat_lit 0, .branch (nat_lit 9) (.branch (nat_lit 3) (.branch (nat_lit 1) (.leaf (nat_lit 0, nat_lit 0, nat_lit 0, nat_lit 0, nat_lit 0, nat_lit 0, [])) (.branch (nat_lit 2) (.leaf (nat_lit 2, nat_lit 1, nat_lit 0, nat_lit 1, nat_lit 0, nat_lit 0, [])) (.leaf (nat_lit 0, nat_lit 2, nat_lit 0, nat_lit 0, nat_lit 0, nat_lit 0, [])))) (.branch (nat_lit 5) (.branch (nat_lit 4) (.leaf (nat_lit 2, nat_lit 3, nat_lit 0, nat_lit 2, nat_lit 0, nat_lit 0, [])) (.leaf (nat_lit 1, nat_lit 4, nat_lit 0, nat_lit 2, nat_lit 0, nat_lit 0, []))) (.branch (nat_lit 6) (.leaf (nat_lit 1, nat_lit 5, nat_lit 4, nat_lit 0, nat_lit 0, nat_lit 0, [])) (.leaf (nat_lit 14, nat_lit 6, nat_lit 10, nat_lit 36, nat_lit 5, nat_lit 2212, []))))) (.branch (nat_lit 38) (.branch (nat_lit 12) (.leaf (nat_lit 14, nat_lit 9, nat_lit 3, nat_lit 180, nat_lit 0, nat_lit 1221, [])) (.branch (nat_lit 15) (.leaf (nat_lit 14, nat_lit 12, nat_lit 8, nat_lit 181, nat_lit 2, nat_lit 1103, [])) (.leaf (nat_lit 9, nat_lit 15, nat_lit 3, nat_lit 38, nat_lit 0, nat_lit 0, [])))) (.branch (nat_lit 40) (.branch (nat_lit 39) (.leaf (nat_lit 1, nat_lit 38, nat_lit 4, nat_lit 0, nat_lit 0, nat_lit 0, [])) (.leaf (nat_lit 1, nat_lit 39, nat_lit 0, nat_lit 1, nat_lit 0, nat_lit 0, []))) (.branch (nat_lit 43) (.leaf (nat_lit 23, nat_lit 40, nat_lit 2, nat_lit 106, nat_lit 4070, nat_lit 113, [])) (.leaf (nat_lit 24, nat_lit 43, nat_lit 1, nat_lit 0, nat_lit 0, nat_lit 0, [])))))), [nat_lit 4214, nat_lit 1001, nat_lit 4212, nat_lit 4213])
set_option maxRecDepth 100000 in
def q_M139 : qM × List Nat := ((yX10_dearest, cX10_dearest, nat_lit 5, some .int, nat_lit 10, nat_lit 2, nat_lit 0, nat_lit 0, nat_lit 0, .branch (nat_lit 8) (.branch (nat_lit 4) (.branch (nat_lit 2) (.branch (nat_lit 1) (.leaf (nat_lit 0, nat_lit 0, nat_lit 0, nat_lit 1, nat_lit 1, nat_lit 0, [])) (.leaf (nat_lit 2, nat_lit 1, nat_lit 0, nat_lit 1, nat_lit 0, nat_lit 0, []))) (.branch (nat_lit 3) (.leaf (nat_lit 0, nat_lit 2, nat_lit 0, nat_lit 0, nat_lit 0, nat_lit 0, [])) (.leaf (nat_lit 2, nat_lit 3, nat_lit 0, nat_lit 2, nat_lit 0, nat_lit 0, [])))) (.branch (nat_lit 6) (.branch (nat_lit 5) (.leaf (nat_lit 0, nat_lit 4, nat_lit 0, nat_lit 0, nat_lit 0, nat_lit 0, [])) (.leaf (nat_lit 2, nat_lit 5, nat_lit 0, nat_lit 3, nat_lit 0, nat_lit 0, []))) (.branch (nat_lit 7) (.leaf (nat_lit 1, nat_lit 6, nat_lit 0, nat_lit 3, nat_lit 0, nat_lit 0, [])) (.leaf (nat_lit 1, nat_lit 7, nat_lit 4, nat_lit 0, nat_lit 0, nat_lit 0, []))))) (.branch (nat_lit 50) (.branch (nat_lit 14) (.branch (nat_lit 11) (.leaf (nat_lit 14, nat_lit 8, nat_lit 10, nat_lit 36, nat_lit 5, nat_lit 2212, [])) (.leaf (nat_lit 14, nat_lit 11, nat_lit 3, nat_lit 180, nat_lit 0, nat_lit 1221, []))) (.branch (nat_lit 17) (.leaf (nat_lit 14, nat_lit 14, nat_lit 8, nat_lit 221, nat_lit 4, nat_lit 1109, [])) (.leaf (nat_lit 9, nat_lit 17, nat_lit 3, nat_lit 50, nat_lit 0, nat_lit 0, [])))) (.branch (nat_lit 52) (.branch (nat_lit 51) (.leaf (nat_lit 1, nat_lit 50, nat_lit 4, nat_lit 0, nat_lit 0, nat_lit 0, [])) (.leaf (nat_lit 1, nat_lit 51, nat_lit 0, nat_lit 1, nat_lit 0, nat_lit 0, []))) (.branch (nat_lit 55) (.leaf (nat_lit 23, nat_lit 52, nat_lit 2, nat_lit 255, nat_lit 4168, nat_lit 117, [])) (.leaf (nat_lit 24, nat_lit 55, nat_lit 1, nat_lit 0, nat_lit 0, nat_lit 0, [])))))), [nat_lit 4222, nat_lit 1001, nat_lit 4220, nat_lit 4221])
set_option maxRecDepth 100000 in
def q_M140 : qM × List Nat := ((yX10_astray, cX10_astray, nat_lit 2, some .int, nat_lit 10, nat_lit 2, nat_lit 0, nat_lit 0, nat_lit 0, .branch (nat_lit 10) (.branch (nat_lit 3) (.branch (nat_lit 1) (.leaf (nat_lit 0, nat_lit 0, nat_lit 0, nat_lit 0, nat_lit 0, nat_lit 0, [])) (.branch (nat_lit 2) (.leaf (nat_lit 2, nat_lit 1, nat_lit 0, nat_lit 1, nat_lit 0, nat_lit 0, [])) (.leaf (nat_lit 1, nat_lit 2, nat_lit 0, nat_lit 1, nat_lit 0, nat_lit 0, [])))) (.branch (nat_lit 4) (.leaf (nat_lit 1, nat_lit 3, nat_lit 4, nat_lit 0, nat_lit 0, nat_lit 0, [])) (.branch (nat_lit 7) (.leaf (nat_lit 14, nat_lit 4, nat_lit 10, nat_lit 36, nat_lit 5, nat_lit 2212, [])) (.leaf (nat_lit 14, nat_lit 7, nat_lit 3, nat_lit 180, nat_lit 0, nat_lit 1221, []))))) (.branch (nat_lit 54) (.branch (nat_lit 13) (.leaf (nat_lit 14, nat_lit 10, nat_lit 8, nat_lit 181, nat_lit 2, nat_lit 1103, [])) (.branch (nat_lit 53) (.leaf (nat_lit 9, nat_lit 13, nat_lit 3, nat_lit 53, nat_lit 0, nat_lit 0, [])) (.leaf (nat_lit 1, nat_lit 53, nat_lit 4, nat_lit 0, nat_lit 0, nat_lit 0, [])))) (.branch (nat_lit 56) (.leaf (nat_lit 0, nat_lit 54, nat_lit 1, nat_lit 8, nat_lit 0, nat_lit 0, [])) (.branch (nat_lit 59) (.leaf (nat_lit 23, nat_lit 56, nat_lit 2, nat_lit 102, nat_lit 3082, nat_lit 114, [])) (.leaf (nat_lit 24, nat_lit 59, nat_lit 1, nat_lit 0, nat_lit 0, nat_lit 0, [])))))), [nat_lit 4231, nat_lit 1001, nat_lit 4229, nat_lit 4230])
set_option maxRecDepth 100000 in
def q_M141 : qM × List Nat := ((yX10_knock, cX10_knock, nat_lit 2, some .int, nat_lit 10, nat_lit 2, nat_lit 1, nat_lit 0, nat_lit 0, .branch (nat_lit 11) (.branch (nat_lit 4) (.branch (nat_lit 1) (.leaf (nat_lit 1, nat_lit 0, nat_lit 4, nat_lit 0, nat_lit 0, nat_lit 0, [])) (.leaf (nat_lit 14, nat_lit 1, nat_lit 10, nat_lit 36, nat_lit 5, nat_lit 2212, []))) (.branch (nat_lit 7) (.leaf (nat_lit 14, nat_lit 4, nat_lit 3, nat_lit 180, nat_lit 0, nat_lit 1221, [])) (.branch (nat_lit 8) (.leaf (nat_lit 1, nat_lit 7, nat_lit 0, nat_lit 1, nat_lit 0, nat_lit 0, [])) (.leaf (nat_lit 23, nat_lit 8, nat_lit 2, nat_lit 243, nat_lit 4160, nat_lit 80, []))))) (.branch (nat_lit 15) (.branch (nat_lit 14) (.leaf (nat_lit 8, nat_lit 11, nat_lit 1, nat_lit 20, nat_lit 0, nat_lit 0, [])) (.leaf (nat_lit 1, nat_lit 14, nat_lit 4, nat_lit 0, nat_lit 0, nat_lit 0, []))) (.branch (nat_lit 16) (.leaf (nat_lit 0, nat_lit 15, nat_lit 0, nat_lit 2, nat_lit 0, nat_lit 0, [])) (.branch (nat_lit 19) (.leaf (nat_lit 23, nat_lit 16, nat_lit 2, nat_lit 102, nat_lit 3082, nat_lit 114, [])) (.leaf (nat_lit 24, nat_lit 19, nat_lit 1, nat_lit 0, nat_lit 0, nat_lit 0, [])))))), [nat_lit 4239, nat_lit 1001, nat_lit 4237, nat_lit 4238])
set_option maxRecDepth 100000 in
def q_M142 : qM × List Nat := ((yX10_note, cX10_note, nat_lit 3, some .boolean, nat_lit 10, nat_lit 2, nat_lit 2, nat_lit 0, nat_lit 0, .branch (nat_lit 11) (.branch (nat_lit 4) (.branch (nat_lit 1) (.leaf (nat_lit 1, nat_lit 0, nat_lit 4, nat_lit 0, nat_lit 0, nat_lit 0, [])) (.leaf (nat_lit 14, nat_lit 1, nat_lit 10, nat_lit 36, nat_lit 5, nat_lit 2212, []))) (.branch (nat_lit 7) (.leaf (nat_lit 14, nat_lit 4, nat_lit 3, nat_lit 180, nat_lit 0, nat_lit 1221, [])) (.branch (nat_lit 8) (.leaf (nat_lit 1, nat_lit 7, nat_lit 0, nat_lit 1, nat_lit 0, nat_lit 0, [])) (.leaf (nat_lit 23, nat_lit 8, nat_lit 2, nat_lit 243, nat_lit 4160, nat_lit 80, []))))) (.branch (nat_lit 15) (.branch (nat_lit 14) (.leaf (nat_lit 8, nat_lit 11, nat_lit 1, nat_lit 20, nat_lit 0, nat_lit 0, [])) (.leaf (nat_lit 1, nat_lit 14, nat_lit 4, nat_lit 0, nat_lit 0, nat_lit 0, []))) (.branch (nat_lit 16) (.leaf (nat_lit 0, nat_lit 15, nat_lit 0, nat_lit 2, nat_lit 0, nat_lit 0, [])) (.branch (nat_lit 19) (.leaf (nat_lit 23, nat_lit 16, nat_lit 2, nat_lit 125, nat_lit 3048, nat_lit 116, [])) (.leaf (nat_lit 24, nat_lit 19, nat_lit 1, nat_lit 0, nat_lit 0, nat_lit 0, [])))))), [nat_lit 5003, nat_lit 1001, nat_lit 5001, nat_lit 5002])
set_option maxRecDepth 100000 in
def q_M143 : qM × List Nat := ((yX10_clear, cX10_clear, nat_lit 2, some .int, nat_lit 10, nat_lit 2, nat_lit 0, nat_lit 0, nat_lit 0, .branch (nat_lit 12) (.branch (nat_lit 7) (.branch (nat_lit 1) (.leaf (nat_lit 1, nat_lit 0, nat_lit 4, nat_lit 0, nat_lit 0, nat_lit 0, [])) (.branch (nat_lit 4) (.leaf (nat_lit 14, nat_lit 1, nat_lit 10, nat_lit 36, nat_lit 5, nat_lit 2212, [])) (.leaf (nat_lit 23, nat_lit 4, nat_lit 2, nat_lit 239, nat_lit 4152, nat_lit 36, [])))) (.branch (nat_lit 8) (.leaf (nat_lit 2, nat_lit 7, nat_lit 0, nat_lit 1, nat_lit 0, nat_lit 0, [])) (.branch (nat_lit 9) (.leaf (nat_lit 1, nat_lit 8, nat_lit 4, nat_lit 0, nat_lit 0, nat_lit 0, [])) (.leaf (nat_lit 14, nat_lit 9, nat_lit 10, nat_lit 36, nat_lit 5, nat_lit 2212, []))))) (.branch (nat_lit 19) (.branch (nat_lit 15) (.leaf (nat_lit 14, nat_lit 12, nat_lit 3, nat_lit 267, nat_lit 1, nat_lit 1225, [])) (.branch (nat_lit 16) (.leaf (nat_lit 0, nat_lit 15, nat_lit 0, nat_lit 1, nat_lit 1, nat_lit 0, [])) (.leaf (nat_lit 23, nat_lit 16, nat_lit 0, nat_lit 300, nat_lit 5008, nat_lit 321, [])))) (.branch (nat_lit 21) (.branch (nat_lit 20) (.leaf (nat_lit 1, nat_lit 19, nat_lit 4, nat_lit 0, nat_lit 0, nat_lit 0, [])) (.leaf (nat_lit 1, nat_lit 20, nat_lit 0, nat_lit 1, nat_lit 0, nat_lit 0, []))) (.branch (nat_lit 24) (.leaf (nat_lit 23, nat_lit 21, nat_lit 2, nat_lit 106, nat_lit 4070, nat_lit 113, [])) (.leaf (nat_lit 24, nat_lit 24, nat_lit 1, nat_lit 0, nat_lit 0, nat_lit 0, [])))))), [nat_lit 5007, nat_lit 1001, nat_lit 5005, nat_lit 5006])
set_option maxRecDepth 100000 in
def q_M144 : qM × List Nat := ((yX10_wrong, cX10_wrong, nat_lit 2, some .int, nat_lit 10, nat_lit 2, nat_lit 0, nat_lit 0, nat_lit 0, .branch (nat_lit 10) (.branch (nat_lit 3) (.branch (nat_lit 1) (.leaf (nat_lit 0, nat_lit 0, nat_lit 0, nat_lit 0, nat_lit 0, nat_lit 0, [])) (.branch (nat_lit 2) (.leaf (nat_lit 2, nat_lit 1, nat_lit 0, nat_lit 1, nat_lit 0, nat_lit 0, [])) (.leaf (nat_lit 1, nat_lit 2, nat_lit 0, nat_lit 1, nat_lit 0, nat_lit 0, [])))) (.branch (nat_lit 4) (.leaf (nat_lit 1, nat_lit 3, nat_lit 4, nat_lit 0, nat_lit 0, nat_lit 0, [])) (.branch (nat_lit 7) (.leaf (nat_lit 14, nat_lit 4, nat_lit 10, nat_lit 36, nat_lit 5, nat_lit 2212, [])) (.leaf (nat_lit 14, nat_lit 7, nat_lit 3, nat_lit 180, nat_lit 0, nat_lit 1221, []))))) (.branch (nat_lit 55) (.branch (nat_lit 13) (.leaf (nat_lit 14, nat_lit 10, nat_lit 8, nat_lit 181, nat_lit 2, nat_lit 1103, [])) (.branch (nat_lit 54) (.leaf (nat_lit 9, nat_lit 13, nat_lit 3, nat_lit 54, nat_lit 0, nat_lit 0, [])) (.leaf (nat_lit 1, nat_lit 54, nat_lit 4, nat_lit 0, nat_lit 0, nat_lit 0, [])))) (.branch (nat_lit 57) (.leaf (nat_lit 0, nat_lit 55, nat_lit 1, nat_lit 8, nat_lit 0, nat_lit 0, [])) (.branch (nat_lit 60) (.leaf (nat_lit 23, nat_lit 57, nat_lit 2, nat_lit 102, nat_lit 3082, nat_lit 114, [])) (.leaf (nat_lit 24, nat_lit 60, nat_lit 1, nat_lit 0, nat_lit 0, nat_lit 0, [])))))), [nat_lit 5012, nat_lit 1001, nat_lit 5010, nat_lit 5011])
set_option maxRecDepth 100000 in
def q_M145 : qM × List Nat := ((yX10_agrees, cX10_agrees, nat_lit 2, some .boolean, nat_lit 10, nat_lit 0, nat_lit 2, nat_lit 0, nat_lit 0, .branch (nat_lit 19) (.branch (nat_lit 1) (.leaf (nat_lit 1, nat_lit 0, nat_lit 0, nat_lit 0, nat_lit 0, nat_lit 0, [])) (.branch (nat_lit 2) (.leaf (nat_lit 0, nat_lit 1, nat_lit 0, nat_lit 1, nat_lit 1, nat_lit 0, [])) (.leaf (nat_lit 9, nat_lit 2, nat_lit 0, nat_lit 19, nat_lit 0, nat_lit 0, [])))) (.branch (nat_lit 20) (.leaf (nat_lit 0, nat_lit 19, nat_lit 0, nat_lit 1, nat_lit 0, nat_lit 0, [])) (.branch (nat_lit 24) (.leaf (nat_lit 10, nat_lit 20, nat_lit 0, nat_lit 24, nat_lit 0, nat_lit 0, [])) (.leaf (nat_lit 24, nat_lit 24, nat_lit 1, nat_lit 0, nat_lit 0, nat_lit 0, []))))), [nat_lit 5015, nat_lit 1001, nat_lit 5014, nat_lit 0])
set_option maxRecDepth 100000 in
def q_M146 : qM × List Nat := ((yX10_least, cX10_least, nat_lit 2, some .int, nat_lit 10, nat_lit 2, nat_lit 1, nat_lit 0, nat_lit 0, .branch (nat_lit 12) (.branch (nat_lit 5) (.branch (nat_lit 1) (.leaf (nat_lit 1, nat_lit 0, nat_lit 4, nat_lit 0, nat_lit 0, nat_lit 0, [])) (.branch (nat_lit 4) (.leaf (nat_lit 14, nat_lit 1, nat_lit 10, nat_lit 64, nat_lit 10, nat_lit 2217, [])) (.leaf (nat_lit 1, nat_lit 4, nat_lit 4, nat_lit 0, nat_lit 0, nat_lit 0, [])))) (.branch (nat_lit 8) (.leaf (nat_lit 14, nat_lit 5, nat_lit 10, nat_lit 36, nat_lit 5, nat_lit 2212, [])) (.branch (nat_lit 9) (.leaf (nat_lit 1, nat_lit 8, nat_lit 0, nat_lit 1, nat_lit 0, nat_lit 0, [])) (.leaf (nat_lit 23, nat_lit 9, nat_lit 2, nat_lit 310, nat_lit 5020, nat_lit 1, []))))) (.branch (nat_lit 24) (.branch (nat_lit 22) (.leaf (nat_lit 8, nat_lit 12, nat_lit 1, nat_lit 22, nat_lit 0, nat_lit 0, [])) (.branch (nat_lit 23) (.leaf (nat_lit 1, nat_lit 22, nat_lit 4, nat_lit 0, nat_lit 0, nat_lit 0, [])) (.leaf (nat_lit 1, nat_lit 23, nat_lit 4, nat_lit 0, nat_lit 0, nat_lit 0, [])))) (.branch (nat_lit 30) (.branch (nat_lit 27) (.leaf (nat_lit 14, nat_lit 24, nat_lit 10, nat_lit 64, nat_lit 10, nat_lit 2217, [])) (.leaf (nat_lit 14, nat_lit 27, nat_lit 0, nat_lit 314, nat_lit 9, nat_lit 2068, []))) (.branch (nat_lit 33) (.leaf (nat_lit 23, nat_lit 30, nat_lit 2, nat_lit 106, nat_lit 4070, nat_lit 113, [])) (.leaf (nat_lit 24, nat_lit 33, nat_lit 1, nat_lit 0, nat_lit 0, nat_lit 0, [])))))), [nat_lit 5019, nat_lit 1001, nat_lit 5017, nat_lit 5018])
set_option maxRecDepth 100000 in
def q_M147 : qM × List Nat := ((yX10_ways, cX10_ways, nat_lit 2, some .int, nat_lit 10, nat_lit 2, nat_lit 1, nat_lit 0, nat_lit 0, .branch (nat_lit 12) (.branch (nat_lit 5) (.branch (nat_lit 1) (.leaf (nat_lit 1, nat_lit 0, nat_lit 4, nat_lit 0, nat_lit 0, nat_lit 0, [])) (.branch (nat_lit 4) (.leaf (nat_lit 14, nat_lit 1, nat_lit 10, nat_lit 64, nat_lit 10, nat_lit 2217, [])) (.leaf (nat_lit 1, nat_lit 4, nat_lit 4, nat_lit 0, nat_lit 0, nat_lit 0, [])))) (.branch (nat_lit 8) (.leaf (nat_lit 14, nat_lit 5, nat_lit 10, nat_lit 36, nat_lit 5, nat_lit 2212, [])) (.branch (nat_lit 9) (.leaf (nat_lit 1, nat_lit 8, nat_lit 0, nat_lit 1, nat_lit 0, nat_lit 0, [])) (.leaf (nat_lit 23, nat_lit 9, nat_lit 2, nat_lit 310, nat_lit 5020, nat_lit 1, []))))) (.branch (nat_lit 24) (.branch (nat_lit 22) (.leaf (nat_lit 8, nat_lit 12, nat_lit 1, nat_lit 22, nat_lit 0, nat_lit 0, [])) (.branch (nat_lit 23) (.leaf (nat_lit 1, nat_lit 22, nat_lit 4, nat_lit 0, nat_lit 0, nat_lit 0, [])) (.leaf (nat_lit 1, nat_lit 23, nat_lit 4, nat_lit 0, nat_lit 0, nat_lit 0, [])))) (.branch (nat_lit 30) (.branch (nat_lit 27) (.leaf (nat_lit 14, nat_lit 24, nat_lit 10, nat_lit 64, nat_lit 10, nat_lit 2217, [])) (.leaf (nat_lit 14, nat_lit 27, nat_lit 0, nat_lit 317, nat_lit 10, nat_lit 2071, []))) (.branch (nat_lit 33) (.leaf (nat_lit 23, nat_lit 30, nat_lit 2, nat_lit 106, nat_lit 4070, nat_lit 113, [])) (.leaf (nat_lit 24, nat_lit 33, nat_lit 1, nat_lit 0, nat_lit 0, nat_lit 0, [])))))), [nat_lit 5056, nat_lit 1001, nat_lit 5054, nat_lit 5055])
set_option maxRecDepth 100000 in
def q_M148 : qM × List Nat := ((yX10_explain, cX10_explain, nat_lit 3, some .int, nat_lit 10, nat_lit 2, nat_lit 1, nat_lit 0, nat_lit 0, .branch (nat_lit 41) (.branch (nat_lit 23) (.branch (nat_lit 8) (.branch (nat_lit 4) (.branch (nat_lit 1) (.leaf (nat_lit 1, nat_lit 0, nat_lit 4, nat_lit 0, nat_lit 0, nat_lit 0, [])) (.leaf (nat_lit 14, nat_lit 1, nat_lit 10, nat_lit 64, nat_lit 10, nat_lit 2217, []))) (.branch (nat_lit 5) (.leaf (nat_lit 1, nat_lit 4, nat_lit 4, nat_lit 0, nat_lit 0, nat_lit 0, [])) (.leaf (nat_lit 14, nat_lit 5, nat_lit 10, nat_lit 36, nat_lit 5, nat_lit 2212, [])))) (.branch (nat_lit 12) (.branch (nat_lit 9) (.leaf (nat_lit 1, nat_lit 8, nat_lit 0, nat_lit 1, nat_lit 0, nat_lit 0, [])) (.leaf (nat_lit 23, nat_lit 9, nat_lit 2, nat_lit 310, nat_lit 5020, nat_lit 1, []))) (.branch (nat_lit 22) (.leaf (nat_lit 8, nat_lit 12, nat_lit 1, nat_lit 22, nat_lit 0, nat_lit 0, [])) (.leaf (nat_lit 1, nat_lit 22, nat_lit 4, nat_lit 0, nat_lit 0, nat_lit 0, []))))) (.branch (nat_lit 31) (.branch (nat_lit 27) (.branch (nat_lit 26) (.leaf (nat_lit 14, nat_lit 23, nat_lit 10, nat_lit 64, nat_lit 10, nat_lit 2217, [])) (.leaf (nat_lit 0, nat_lit 26, nat_lit 0, nat_lit 0, nat_lit 0, nat_lit 0, []))) (.branch (nat_lit 30) (.leaf (nat_lit 23, nat_lit 27, nat_lit 2, nat_lit 320, nat_lit 5061, nat_lit 16, [])) (.leaf (nat_lit 1, nat_lit 30, nat_lit 4, nat_lit 0, nat_lit 0, nat_lit 0, [])))) (.branch (nat_lit 35) (.branch (nat_lit 32) (.leaf (nat_lit 1, nat_lit 31, nat_lit 4, nat_lit 0, nat_lit 0, nat_lit 0, [])) (.leaf (nat_lit 14, nat_lit 32, nat_lit 10, nat_lit 64, nat_lit 10, nat_lit 2217, []))) (.branch (nat_lit 38) (.leaf (nat_lit 14, nat_lit 35, nat_lit 0, nat_lit 323, nat_lit 11, nat_lit 2073, [])) (.leaf (nat_lit 15, nat_lit 38, nat_lit 10, nat_lit 85, nat_lit 14, nat_lit 2221, [nat_lit 0])))))) (.branch (nat_lit 53) (.branch (nat_lit 47) (.branch (nat_lit 43) (.branch (nat_lit 42) (.leaf (nat_lit 1, nat_lit 41, nat_lit 4, nat_lit 0, nat_lit 0, nat_lit 0, [])) (.leaf (nat_lit 0, nat_lit 42, nat_lit 0, nat_lit 0, nat_lit 0, nat_lit 0, []))) (.branch (nat_lit 46) (.leaf (nat_lit 15, nat_lit 43, nat_lit 10, nat_lit 88, nat_lit 15, nat_lit 2222, [nat_lit 0])) (.leaf (nat_lit 0, nat_lit 46, nat_lit 0, nat_lit 1, nat_lit 0, nat_lit 0, [])))) (.branch (nat_lit 49) (.branch (nat_lit 48) (.leaf (nat_lit 2, nat_lit 47, nat_lit 0, nat_lit 2, nat_lit 0, nat_lit 0, [])) (.leaf (nat_lit 1, nat_lit 48, nat_lit 0, nat_lit 2, nat_lit 0, nat_lit 0, []))) (.branch (nat_lit 50) (.leaf (nat_lit 1, nat_lit 49, nat_lit 4, nat_lit 0, nat_lit 0, nat_lit 0, [])) (.leaf (nat_lit 14, nat_lit 50, nat_lit 10, nat_lit 36, nat_lit 5, nat_lit 2212, []))))) (.branch (nat_lit 119) (.branch (nat_lit 59) (.branch (nat_lit 56) (.leaf (nat_lit 14, nat_lit 53, nat_lit 3, nat_lit 180, nat_lit 0, nat_lit 1221, [])) (.leaf (nat_lit 14, nat_lit 56, nat_lit 8, nat_lit 181, nat_lit 2, nat_lit 1103, []))) (.branch (nat_lit 118) (.leaf (nat_lit 9, nat_lit 59, nat_lit 3, nat_lit 118, nat_lit 0, nat_lit 0, [])) (.leaf (nat_lit 1, nat_lit 118, nat_lit 4, nat_lit 0, nat_lit 0, nat_lit 0, [])))) (.branch (nat_lit 123) (.branch (nat_lit 120) (.leaf (nat_lit 1, nat_lit 119, nat_lit 4, nat_lit 0, nat_lit 0, nat_lit 0, [])) (.leaf (nat_lit 14, nat_lit 120, nat_lit 10, nat_lit 88, nat_lit 15, nat_lit 2222, []))) (.branch (nat_lit 126) (.leaf (nat_lit 23, nat_lit 123, nat_lit 2, nat_lit 106, nat_lit 4070, nat_lit 113, [])) (.leaf (nat_lit 24, nat_lit 126, nat_lit 1, nat_lit 0, nat_lit 0, nat_lit 0, []))))))), [nat_lit 5060, nat_lit 1001, nat_lit 5058, nat_lit 5059])
set_option maxRecDepth 100000 in
def q_M149 : qM × List Nat := ((yX10_slipAt, cX10_slipAt, nat_lit 3, some .int, nat_lit 10, nat_lit 2, nat_lit 2, nat_lit 0, nat_lit 0, .branch (nat_lit 16) (.branch (nat_lit 9) (.branch (nat_lit 2) (.branch (nat_lit 1) (.leaf (nat_lit 1, nat_lit 0, nat_lit 0, nat_lit 2, nat_lit 0, nat_lit 0, [])) (.leaf (nat_lit 0, nat_lit 1, nat_lit 0, nat_lit 0, nat_lit 0, nat_lit 0, []))) (.branch (nat_lit 3) (.leaf (nat_lit 0, nat_lit 2, nat_lit 0, nat_lit 1, nat_lit 0, nat_lit 0, [])) (.branch (nat_lit 6) (.leaf (nat_lit 23, nat_lit 3, nat_lit 0, nat_lit 109, nat_lit 3045, nat_lit 119, [])) (.leaf (nat_lit 8, nat_lit 6, nat_lit 1, nat_lit 15, nat_lit 0, nat_lit 0, []))))) (.branch (nat_lit 11) (.branch (nat_lit 10) (.leaf (nat_lit 1, nat_lit 9, nat_lit 4, nat_lit 0, nat_lit 0, nat_lit 0, [])) (.leaf (nat_lit 0, nat_lit 10, nat_lit 0, nat_lit 5, nat_lit 0, nat_lit 0, []))) (.branch (nat_lit 14) (.leaf (nat_lit 23, nat_lit 11, nat_lit 2, nat_lit 102, nat_lit 3082, nat_lit 114, [])) (.branch (nat_lit 15) (.leaf (nat_lit 24, nat_lit 14, nat_lit 1, nat_lit 0, nat_lit 0, nat_lit 0, [])) (.leaf (nat_lit 1, nat_lit 15, nat_lit 0, nat_lit 1, nat_lit 0, nat_lit 0, [])))))) (.branch (nat_lit 23) (.branch (nat_lit 18) (.branch (nat_lit 17) (.leaf (nat_lit 0, nat_lit 16, nat_lit 0, nat_lit 0, nat_lit 0, nat_lit 0, [])) (.leaf (nat_lit 1, nat_lit 17, nat_lit 4, nat_lit 0, nat_lit 0, nat_lit 0, []))) (.branch (nat_lit 21) (.leaf (nat_lit 14, nat_lit 18, nat_lit 10, nat_lit 88, nat_lit 15, nat_lit 2222, [])) (.branch (nat_lit 22) (.leaf (nat_lit 0, nat_lit 21, nat_lit 0, nat_lit 1, nat_lit 0, nat_lit 0, [])) (.leaf (nat_lit 4, nat_lit 22, nat_lit 1, nat_lit 0, nat_lit 0, nat_lit 0, []))))) (.branch (nat_lit 30) (.branch (nat_lit 26) (.leaf (nat_lit 23, nat_lit 23, nat_lit 0, nat_lit 109, nat_lit 3045, nat_lit 119, [])) (.branch (nat_lit 29) (.leaf (nat_lit 8, nat_lit 26, nat_lit 1, nat_lit 36, nat_lit 0, nat_lit 0, [])) (.leaf (nat_lit 1, nat_lit 29, nat_lit 4, nat_lit 0, nat_lit 0, nat_lit 0, [])))) (.branch (nat_lit 32) (.leaf (nat_lit 0, nat_lit 30, nat_lit 1, nat_lit 8, nat_lit 0, nat_lit 0, [])) (.branch (nat_lit 35) (.leaf (nat_lit 23, nat_lit 32, nat_lit 2, nat_lit 102, nat_lit 3082, nat_lit 114, [])) (.leaf (nat_lit 24, nat_lit 35, nat_lit 1, nat_lit 0, nat_lit 0, nat_lit 0, []))))))), [nat_lit 5076, nat_lit 1001, nat_lit 5074, nat_lit 5075])
set_option maxRecDepth 100000 in
def q_M150 : qM × List Nat := ((yX10_firstCount, cX10_firstCount, nat_lit 1, some .int, nat_lit 10, nat_lit 2, nat_lit 0, nat_lit 0, nat_lit 0, .branch (nat_lit 2) (.branch (nat_lit 1) (.leaf (nat_lit 1, nat_lit 0, nat_lit 4, nat_lit 0, nat_lit 0, nat_lit 0, [])) (.leaf (nat_lit 1, nat_lit 1, nat_lit 4, nat_lit 0, nat_lit 0, nat_lit 0, []))) (.branch (nat_lit 5) (.leaf (nat_lit 14, nat_lit 2, nat_lit 10, nat_lit 85, nat_lit 14, nat_lit 2221, [])) (.branch (nat_lit 8) (.leaf (nat_lit 23, nat_lit 5, nat_lit 2, nat_lit 255, nat_lit 4168, nat_lit 117, [])) (.leaf (nat_lit 24, nat_lit 8, nat_lit 1, nat_lit 0, nat_lit 0, nat_lit 0, []))))), [nat_lit 5080, nat_lit 1001, nat_lit 5078, nat_lit 5079])
set_option maxRecDepth 100000 in
def q_M151 : qM × List Nat := ((yX10_sure, cX10_sure, nat_lit 3, some .int, nat_lit 10, nat_lit 2, nat_lit 2, nat_lit 0, nat_lit 0, .branch (nat_lit 11) (.branch (nat_lit 4) (.branch (nat_lit 1) (.leaf (nat_lit 1, nat_lit 0, nat_lit 4, nat_lit 0, nat_lit 0, nat_lit 0, [])) (.leaf (nat_lit 14, nat_lit 1, nat_lit 10, nat_lit 36, nat_lit 5, nat_lit 2212, []))) (.branch (nat_lit 7) (.leaf (nat_lit 14, nat_lit 4, nat_lit 3, nat_lit 180, nat_lit 0, nat_lit 1221, [])) (.branch (nat_lit 8) (.leaf (nat_lit 1, nat_lit 7, nat_lit 0, nat_lit 1, nat_lit 0, nat_lit 0, [])) (.leaf (nat_lit 23, nat_lit 8, nat_lit 2, nat_lit 243, nat_lit 4160, nat_lit 80, []))))) (.branch (nat_lit 15) (.branch (nat_lit 14) (.leaf (nat_lit 8, nat_lit 11, nat_lit 1, nat_lit 20, nat_lit 0, nat_lit 0, [])) (.leaf (nat_lit 1, nat_lit 14, nat_lit 4, nat_lit 0, nat_lit 0, nat_lit 0, []))) (.branch (nat_lit 16) (.leaf (nat_lit 0, nat_lit 15, nat_lit 0, nat_lit 2, nat_lit 0, nat_lit 0, [])) (.branch (nat_lit 19) (.leaf (nat_lit 23, nat_lit 16, nat_lit 2, nat_lit 102, nat_lit 3082, nat_lit 114, [])) (.leaf (nat_lit 24, nat_lit 19, nat_lit 1, nat_lit 0, nat_lit 0, nat_lit 0, [])))))), [nat_lit 5084, nat_lit 1001, nat_lit 5082, nat_lit 5083])
set_option maxRecDepth 100000 in
def q_M152 : qM × List Nat := ((yX10_blame, cX10_blame, nat_lit 4, some .boolean, nat_lit 10, nat_lit 2, nat_lit 2, nat_lit 0, nat_lit 0, .branch (nat_lit 11) (.branch (nat_lit 4) (.branch (nat_lit 1) (.leaf (nat_lit 1, nat_lit 0, nat_lit 4, nat_lit 0, nat_lit 0, nat_lit 0, [])) (.leaf (nat_lit 14, nat_lit 1, nat_lit 10, nat_lit 36, nat_lit 5, nat_lit 2212, []))) (.branch (nat_lit 7) (.leaf (nat_lit 14, nat_lit 4, nat_lit 3, nat_lit 180, nat_lit 0, nat_lit 1221, [])) (.branch (nat_lit 8) (.leaf (nat_lit 1, nat_lit 7, nat_lit 0, nat_lit 1, nat_lit 0, nat_lit 0, [])) (.leaf (nat_lit 23, nat_lit 8, nat_lit 2, nat_lit 273, nat_lit 4180, nat_lit 81, []))))) (.branch (nat_lit 15) (.branch (nat_lit 14) (.leaf (nat_lit 8, nat_lit 11, nat_lit 1, nat_lit 20, nat_lit 0, nat_lit 0, [])) (.leaf (nat_lit 1, nat_lit 14, nat_lit 4, nat_lit 0, nat_lit 0, nat_lit 0, []))) (.branch (nat_lit 16) (.leaf (nat_lit 0, nat_lit 15, nat_lit 0, nat_lit 2, nat_lit 0, nat_lit 0, [])) (.branch (nat_lit 19) (.leaf (nat_lit 23, nat_lit 16, nat_lit 2, nat_lit 125, nat_lit 3048, nat_lit 116, [])) (.leaf (nat_lit 24, nat_lit 19, nat_lit 1, nat_lit 0, nat_lit 0, nat_lit 0, [])))))), [nat_lit 5104, nat_lit 1001, nat_lit 5102, nat_lit 5103])
set_option maxRecDepth 100000 in
def q_M153 : qM × List Nat := ((yX10_telling, cX10_telling, nat_lit 3, some .int, nat_lit 10, nat_lit 2, nat_lit 2, nat_lit 0, nat_lit 0, .branch (nat_lit 52) (.branch (nat_lit 19) (.branch (nat_lit 9) (.branch (nat_lit 2) (.branch (nat_lit 1) (.leaf (nat_lit 1, nat_lit 0, nat_lit 0, nat_lit 2, nat_lit 0, nat_lit 0, [])) (.leaf (nat_lit 0, nat_lit 1, nat_lit 0, nat_lit 0, nat_lit 0, nat_lit 0, []))) (.branch (nat_lit 3) (.leaf (nat_lit 0, nat_lit 2, nat_lit 0, nat_lit 1, nat_lit 0, nat_lit 0, [])) (.branch (nat_lit 6) (.leaf (nat_lit 23, nat_lit 3, nat_lit 0, nat_lit 109, nat_lit 3045, nat_lit 119, [])) (.leaf (nat_lit 8, nat_lit 6, nat_lit 1, nat_lit 15, nat_lit 0, nat_lit 0, []))))) (.branch (nat_lit 14) (.branch (nat_lit 10) (.leaf (nat_lit 1, nat_lit 9, nat_lit 4, nat_lit 0, nat_lit 0, nat_lit 0, [])) (.branch (nat_lit 11) (.leaf (nat_lit 0, nat_lit 10, nat_lit 0, nat_lit 5, nat_lit 0, nat_lit 0, [])) (.leaf (nat_lit 23, nat_lit 11, nat_lit 2, nat_lit 102, nat_lit 3082, nat_lit 114, [])))) (.branch (nat_lit 15) (.leaf (nat_lit 24, nat_lit 14, nat_lit 1, nat_lit 0, nat_lit 0, nat_lit 0, [])) (.branch (nat_lit 16) (.leaf (nat_lit 1, nat_lit 15, nat_lit 4, nat_lit 0, nat_lit 0, nat_lit 0, [])) (.leaf (nat_lit 14, nat_lit 16, nat_lit 10, nat_lit 64, nat_lit 10, nat_lit 2217, [])))))) (.branch (nat_lit 38) (.branch (nat_lit 24) (.branch (nat_lit 20) (.leaf (nat_lit 1, nat_lit 19, nat_lit 4, nat_lit 0, nat_lit 0, nat_lit 0, [])) (.branch (nat_lit 23) (.leaf (nat_lit 14, nat_lit 20, nat_lit 10, nat_lit 36, nat_lit 5, nat_lit 2212, [])) (.leaf (nat_lit 1, nat_lit 23, nat_lit 0, nat_lit 1, nat_lit 0, nat_lit 0, [])))) (.branch (nat_lit 27) (.leaf (nat_lit 23, nat_lit 24, nat_lit 2, nat_lit 310, nat_lit 5020, nat_lit 1, [])) (.branch (nat_lit 37) (.leaf (nat_lit 8, nat_lit 27, nat_lit 1, nat_lit 37, nat_lit 0, nat_lit 0, [])) (.leaf (nat_lit 1, nat_lit 37, nat_lit 0, nat_lit 2, nat_lit 0, nat_lit 0, []))))) (.branch (nat_lit 43) (.branch (nat_lit 39) (.leaf (nat_lit 0, nat_lit 38, nat_lit 0, nat_lit 1, nat_lit 0, nat_lit 0, [])) (.branch (nat_lit 42) (.leaf (nat_lit 9, nat_lit 39, nat_lit 1, nat_lit 59, nat_lit 0, nat_lit 0, [])) (.leaf (nat_lit 1, nat_lit 42, nat_lit 4, nat_lit 0, nat_lit 0, nat_lit 0, [])))) (.branch (nat_lit 46) (.leaf (nat_lit 14, nat_lit 43, nat_lit 10, nat_lit 64, nat_lit 10, nat_lit 2217, [])) (.branch (nat_lit 49) (.leaf (nat_lit 23, nat_lit 46, nat_lit 2, nat_lit 343, nat_lit 5118, nat_lit 14, [])) (.leaf (nat_lit 8, nat_lit 49, nat_lit 0, nat_lit 59, nat_lit 0, nat_lit 0, []))))))) (.branch (nat_lit 82) (.branch (nat_lit 60) (.branch (nat_lit 55) (.branch (nat_lit 53) (.leaf (nat_lit 1, nat_lit 52, nat_lit 4, nat_lit 0, nat_lit 0, nat_lit 0, [])) (.leaf (nat_lit 0, nat_lit 53, nat_lit 1, nat_lit 8, nat_lit 0, nat_lit 0, []))) (.branch (nat_lit 58) (.leaf (nat_lit 23, nat_lit 55, nat_lit 2, nat_lit 102, nat_lit 3082, nat_lit 114, [])) (.branch (nat_lit 59) (.leaf (nat_lit 24, nat_lit 58, nat_lit 1, nat_lit 0, nat_lit 0, nat_lit 0, [])) (.leaf (nat_lit 1, nat_lit 59, nat_lit 4, nat_lit 0, nat_lit 0, nat_lit 0, []))))) (.branch (nat_lit 68) (.branch (nat_lit 63) (.leaf (nat_lit 14, nat_lit 60, nat_lit 10, nat_lit 64, nat_lit 10, nat_lit 2217, [])) (.branch (nat_lit 66) (.leaf (nat_lit 14, nat_lit 63, nat_lit 0, nat_lit 317, nat_lit 10, nat_lit 2071, [])) (.leaf (nat_lit 0, nat_lit 66, nat_lit 1, nat_lit 12, nat_lit 0, nat_lit 0, [])))) (.branch (nat_lit 78) (.leaf (nat_lit 9, nat_lit 68, nat_lit 5, nat_lit 78, nat_lit 0, nat_lit 0, [])) (.branch (nat_lit 79) (.leaf (nat_lit 1, nat_lit 78, nat_lit 4, nat_lit 0, nat_lit 0, nat_lit 0, [])) (.leaf (nat_lit 14, nat_lit 79, nat_lit 10, nat_lit 71, nat_lit 11, nat_lit 2218, [])))))) (.branch (nat_lit 94) (.branch (nat_lit 89) (.branch (nat_lit 83) (.leaf (nat_lit 1, nat_lit 82, nat_lit 4, nat_lit 0, nat_lit 0, nat_lit 0, [])) (.branch (nat_lit 86) (.leaf (nat_lit 14, nat_lit 83, nat_lit 10, nat_lit 64, nat_lit 10, nat_lit 2217, [])) (.leaf (nat_lit 23, nat_lit 86, nat_lit 2, nat_lit 346, nat_lit 5124, nat_lit 41, [])))) (.branch (nat_lit 90) (.leaf (nat_lit 1, nat_lit 89, nat_lit 4, nat_lit 0, nat_lit 0, nat_lit 0, [])) (.branch (nat_lit 91) (.leaf (nat_lit 1, nat_lit 90, nat_lit 0, nat_lit 2, nat_lit 0, nat_lit 0, [])) (.leaf (nat_lit 8, nat_lit 91, nat_lit 1, nat_lit 104, nat_lit 0, nat_lit 0, []))))) (.branch (nat_lit 101) (.branch (nat_lit 95) (.leaf (nat_lit 1, nat_lit 94, nat_lit 4, nat_lit 0, nat_lit 0, nat_lit 0, [])) (.branch (nat_lit 98) (.leaf (nat_lit 14, nat_lit 95, nat_lit 10, nat_lit 71, nat_lit 11, nat_lit 2218, [])) (.leaf (nat_lit 14, nat_lit 98, nat_lit 4, nat_lit 350, nat_lit 4, nat_lit 2117, [])))) (.branch (nat_lit 111) (.leaf (nat_lit 10, nat_lit 101, nat_lit 0, nat_lit 111, nat_lit 0, nat_lit 0, [])) (.branch (nat_lit 114) (.leaf (nat_lit 23, nat_lit 111, nat_lit 2, nat_lit 106, nat_lit 4070, nat_lit 113, [])) (.leaf (nat_lit 24, nat_lit 114, nat_lit 1, nat_lit 0, nat_lit 0, nat_lit 0, [])))))))), [nat_lit 5117, nat_lit 1001, nat_lit 5115, nat_lit 5116])
set_option maxRecDepth 100000 in
def q_M154 : qM × List Nat := ((yX10_oaths, cX10_oaths, nat_lit 4, some .int, nat_lit 10, nat_lit 2, nat_lit 0, nat_lit 0, nat_lit 0, .branch (nat_lit 18) (.branch (nat_lit 7) (.branch (nat_lit 3) (.branch (nat_lit 1) (.leaf (nat_lit 0, nat_lit 0, nat_lit 0, nat_lit 0, nat_lit 0, nat_lit 0, [])) (.branch (nat_lit 2) (.leaf (nat_lit 2, nat_lit 1, nat_lit 0, nat_lit 1, nat_lit 0, nat_lit 0, [])) (.leaf (nat_lit 0, nat_lit 2, nat_lit 0, nat_lit 2, nat_lit 0, nat_lit 0, [])))) (.branch (nat_lit 4) (.leaf (nat_lit 2, nat_lit 3, nat_lit 0, nat_lit 2, nat_lit 0, nat_lit 0, [])) (.branch (nat_lit 5) (.leaf (nat_lit 1, nat_lit 4, nat_lit 0, nat_lit 2, nat_lit 0, nat_lit 0, [])) (.leaf (nat_lit 0, nat_lit 5, nat_lit 1, nat_lit 13, nat_lit 0, nat_lit 0, []))))) (.branch (nat_lit 12) (.branch (nat_lit 10) (.leaf (nat_lit 9, nat_lit 7, nat_lit 4, nat_lit 44, nat_lit 0, nat_lit 0, [])) (.branch (nat_lit 11) (.leaf (nat_lit 0, nat_lit 10, nat_lit 0, nat_lit 1, nat_lit 0, nat_lit 0, [])) (.leaf (nat_lit 2, nat_lit 11, nat_lit 0, nat_lit 3, nat_lit 0, nat_lit 0, [])))) (.branch (nat_lit 14) (.branch (nat_lit 13) (.leaf (nat_lit 1, nat_lit 12, nat_lit 0, nat_lit 3, nat_lit 0, nat_lit 0, [])) (.leaf (nat_lit 1, nat_lit 13, nat_lit 0, nat_lit 2, nat_lit 0, nat_lit 0, []))) (.branch (nat_lit 17) (.leaf (nat_lit 9, nat_lit 14, nat_lit 4, nat_lit 38, nat_lit 0, nat_lit 0, [])) (.leaf (nat_lit 1, nat_lit 17, nat_lit 4, nat_lit 0, nat_lit 0, nat_lit 0, [])))))) (.branch (nat_lit 35) (.branch (nat_lit 23) (.branch (nat_lit 21) (.leaf (nat_lit 14, nat_lit 18, nat_lit 10, nat_lit 36, nat_lit 5, nat_lit 2212, [])) (.branch (nat_lit 22) (.leaf (nat_lit 1, nat_lit 21, nat_lit 0, nat_lit 2, nat_lit 0, nat_lit 0, [])) (.leaf (nat_lit 1, nat_lit 22, nat_lit 0, nat_lit 3, nat_lit 0, nat_lit 0, [])))) (.branch (nat_lit 29) (.branch (nat_lit 26) (.leaf (nat_lit 23, nat_lit 23, nat_lit 2, nat_lit 356, nat_lit 5168, nat_lit 37, [])) (.leaf (nat_lit 8, nat_lit 26, nat_lit 0, nat_lit 32, nat_lit 0, nat_lit 0, []))) (.branch (nat_lit 32) (.leaf (nat_lit 3, nat_lit 29, nat_lit 0, nat_lit 1, nat_lit 1, nat_lit 0, [])) (.leaf (nat_lit 3, nat_lit 32, nat_lit 0, nat_lit 3, nat_lit 1, nat_lit 0, []))))) (.branch (nat_lit 44) (.branch (nat_lit 38) (.leaf (nat_lit 10, nat_lit 35, nat_lit 0, nat_lit 12, nat_lit 0, nat_lit 0, [])) (.branch (nat_lit 41) (.leaf (nat_lit 3, nat_lit 38, nat_lit 0, nat_lit 2, nat_lit 1, nat_lit 0, [])) (.leaf (nat_lit 10, nat_lit 41, nat_lit 0, nat_lit 4, nat_lit 0, nat_lit 0, [])))) (.branch (nat_lit 46) (.branch (nat_lit 45) (.leaf (nat_lit 1, nat_lit 44, nat_lit 4, nat_lit 0, nat_lit 0, nat_lit 0, [])) (.leaf (nat_lit 1, nat_lit 45, nat_lit 0, nat_lit 1, nat_lit 0, nat_lit 0, []))) (.branch (nat_lit 49) (.leaf (nat_lit 23, nat_lit 46, nat_lit 2, nat_lit 106, nat_lit 4070, nat_lit 113, [])) (.leaf (nat_lit 24, nat_lit 49, nat_lit 1, nat_lit 0, nat_lit 0, nat_lit 0, []))))))), [nat_lit 5167, nat_lit 1001, nat_lit 5165, nat_lit 5166])
set_option maxRecDepth 100000 in
def q_M155 : qM × List Nat := ((yX10_oathAt, cX10_oathAt, nat_lit 6, some .int, nat_lit 10, nat_lit 2, nat_lit 2, nat_lit 0, nat_lit 0, .branch (nat_lit 41) (.branch (nat_lit 17) (.branch (nat_lit 9) (.branch (nat_lit 2) (.branch (nat_lit 1) (.leaf (nat_lit 1, nat_lit 0, nat_lit 0, nat_lit 2, nat_lit 0, nat_lit 0, [])) (.leaf (nat_lit 0, nat_lit 1, nat_lit 0, nat_lit 0, nat_lit 0, nat_lit 0, []))) (.branch (nat_lit 3) (.leaf (nat_lit 0, nat_lit 2, nat_lit 0, nat_lit 1, nat_lit 0, nat_lit 0, [])) (.branch (nat_lit 6) (.leaf (nat_lit 23, nat_lit 3, nat_lit 0, nat_lit 109, nat_lit 3045, nat_lit 119, [])) (.leaf (nat_lit 8, nat_lit 6, nat_lit 1, nat_lit 15, nat_lit 0, nat_lit 0, []))))) (.branch (nat_lit 14) (.branch (nat_lit 10) (.leaf (nat_lit 1, nat_lit 9, nat_lit 4, nat_lit 0, nat_lit 0, nat_lit 0, [])) (.branch (nat_lit 11) (.leaf (nat_lit 0, nat_lit 10, nat_lit 0, nat_lit 5, nat_lit 0, nat_lit 0, [])) (.leaf (nat_lit 23, nat_lit 11, nat_lit 2, nat_lit 102, nat_lit 3082, nat_lit 114, [])))) (.branch (nat_lit 15) (.leaf (nat_lit 24, nat_lit 14, nat_lit 1, nat_lit 0, nat_lit 0, nat_lit 0, [])) (.branch (nat_lit 16) (.leaf (nat_lit 0, nat_lit 15, nat_lit 0, nat_lit 0, nat_lit 0, nat_lit 0, [])) (.leaf (nat_lit 2, nat_lit 16, nat_lit 0, nat_lit 3, nat_lit 0, nat_lit 0, [])))))) (.branch (nat_lit 28) (.branch (nat_lit 22) (.branch (nat_lit 18) (.leaf (nat_lit 0, nat_lit 17, nat_lit 0, nat_lit 2, nat_lit 0, nat_lit 0, [])) (.branch (nat_lit 20) (.leaf (nat_lit 2, nat_lit 18, nat_lit 1, nat_lit 4, nat_lit 0, nat_lit 0, [])) (.leaf (nat_lit 1, nat_lit 20, nat_lit 1, nat_lit 4, nat_lit 0, nat_lit 0, [])))) (.branch (nat_lit 24) (.leaf (nat_lit 0, nat_lit 22, nat_lit 1, nat_lit 13, nat_lit 0, nat_lit 0, [])) (.branch (nat_lit 27) (.leaf (nat_lit 9, nat_lit 24, nat_lit 4, nat_lit 87, nat_lit 0, nat_lit 0, [])) (.leaf (nat_lit 0, nat_lit 27, nat_lit 0, nat_lit 1, nat_lit 0, nat_lit 0, []))))) (.branch (nat_lit 34) (.branch (nat_lit 30) (.leaf (nat_lit 2, nat_lit 28, nat_lit 1, nat_lit 5, nat_lit 0, nat_lit 0, [])) (.branch (nat_lit 32) (.leaf (nat_lit 1, nat_lit 30, nat_lit 1, nat_lit 5, nat_lit 0, nat_lit 0, [])) (.leaf (nat_lit 1, nat_lit 32, nat_lit 1, nat_lit 4, nat_lit 0, nat_lit 0, [])))) (.branch (nat_lit 37) (.leaf (nat_lit 9, nat_lit 34, nat_lit 4, nat_lit 81, nat_lit 0, nat_lit 0, [])) (.branch (nat_lit 38) (.leaf (nat_lit 1, nat_lit 37, nat_lit 4, nat_lit 0, nat_lit 0, nat_lit 0, [])) (.leaf (nat_lit 14, nat_lit 38, nat_lit 10, nat_lit 36, nat_lit 5, nat_lit 2212, []))))))) (.branch (nat_lit 66) (.branch (nat_lit 53) (.branch (nat_lit 48) (.branch (nat_lit 43) (.leaf (nat_lit 1, nat_lit 41, nat_lit 1, nat_lit 4, nat_lit 0, nat_lit 0, [])) (.branch (nat_lit 45) (.leaf (nat_lit 1, nat_lit 43, nat_lit 1, nat_lit 5, nat_lit 0, nat_lit 0, [])) (.leaf (nat_lit 23, nat_lit 45, nat_lit 2, nat_lit 356, nat_lit 5168, nat_lit 37, [])))) (.branch (nat_lit 51) (.leaf (nat_lit 8, nat_lit 48, nat_lit 0, nat_lit 75, nat_lit 0, nat_lit 0, [])) (.branch (nat_lit 52) (.leaf (nat_lit 1, nat_lit 51, nat_lit 0, nat_lit 3, nat_lit 0, nat_lit 0, [])) (.leaf (nat_lit 1, nat_lit 52, nat_lit 0, nat_lit 1, nat_lit 0, nat_lit 0, []))))) (.branch (nat_lit 58) (.branch (nat_lit 56) (.leaf (nat_lit 9, nat_lit 53, nat_lit 1, nat_lit 72, nat_lit 0, nat_lit 0, [])) (.branch (nat_lit 57) (.leaf (nat_lit 1, nat_lit 56, nat_lit 4, nat_lit 0, nat_lit 0, nat_lit 0, [])) (.leaf (nat_lit 1, nat_lit 57, nat_lit 0, nat_lit 2, nat_lit 0, nat_lit 0, [])))) (.branch (nat_lit 61) (.leaf (nat_lit 8, nat_lit 58, nat_lit 1, nat_lit 66, nat_lit 0, nat_lit 0, [])) (.branch (nat_lit 63) (.leaf (nat_lit 1, nat_lit 61, nat_lit 1, nat_lit 4, nat_lit 0, nat_lit 0, [])) (.leaf (nat_lit 10, nat_lit 63, nat_lit 0, nat_lit 68, nat_lit 0, nat_lit 0, [])))))) (.branch (nat_lit 81) (.branch (nat_lit 72) (.branch (nat_lit 68) (.leaf (nat_lit 1, nat_lit 66, nat_lit 1, nat_lit 5, nat_lit 0, nat_lit 0, [])) (.branch (nat_lit 71) (.leaf (nat_lit 23, nat_lit 68, nat_lit 2, nat_lit 106, nat_lit 4070, nat_lit 113, [])) (.leaf (nat_lit 24, nat_lit 71, nat_lit 1, nat_lit 0, nat_lit 0, nat_lit 0, [])))) (.branch (nat_lit 75) (.leaf (nat_lit 3, nat_lit 72, nat_lit 0, nat_lit 3, nat_lit 1, nat_lit 0, [])) (.branch (nat_lit 78) (.leaf (nat_lit 3, nat_lit 75, nat_lit 0, nat_lit 5, nat_lit 1, nat_lit 0, [])) (.leaf (nat_lit 10, nat_lit 78, nat_lit 0, nat_lit 30, nat_lit 0, nat_lit 0, []))))) (.branch (nat_lit 88) (.branch (nat_lit 84) (.leaf (nat_lit 3, nat_lit 81, nat_lit 0, nat_lit 4, nat_lit 1, nat_lit 0, [])) (.branch (nat_lit 87) (.leaf (nat_lit 10, nat_lit 84, nat_lit 0, nat_lit 20, nat_lit 0, nat_lit 0, [])) (.leaf (nat_lit 1, nat_lit 87, nat_lit 4, nat_lit 0, nat_lit 0, nat_lit 0, [])))) (.branch (nat_lit 90) (.leaf (nat_lit 0, nat_lit 88, nat_lit 1, nat_lit 8, nat_lit 0, nat_lit 0, [])) (.branch (nat_lit 93) (.leaf (nat_lit 23, nat_lit 90, nat_lit 2, nat_lit 102, nat_lit 3082, nat_lit 114, [])) (.leaf (nat_lit 24, nat_lit 93, nat_lit 1, nat_lit 0, nat_lit 0, nat_lit 0, [])))))))), [nat_lit 5181, nat_lit 1001, nat_lit 5179, nat_lit 5180])
set_option maxRecDepth 100000 in
def q_M156 : qM × List Nat := ((yX10_bestKnock, cX10_bestKnock, nat_lit 10, some .int, nat_lit 10, nat_lit 2, nat_lit 1, nat_lit 0, nat_lit 0, .branch (nat_lit 19) (.branch (nat_lit 8) (.branch (nat_lit 4) (.branch (nat_lit 1) (.leaf (nat_lit 1, nat_lit 0, nat_lit 4, nat_lit 0, nat_lit 0, nat_lit 0, [])) (.leaf (nat_lit 14, nat_lit 1, nat_lit 10, nat_lit 64, nat_lit 10, nat_lit 2217, []))) (.branch (nat_lit 5) (.leaf (nat_lit 1, nat_lit 4, nat_lit 4, nat_lit 0, nat_lit 0, nat_lit 0, [])) (.leaf (nat_lit 14, nat_lit 5, nat_lit 10, nat_lit 36, nat_lit 5, nat_lit 2212, [])))) (.branch (nat_lit 12) (.branch (nat_lit 9) (.leaf (nat_lit 1, nat_lit 8, nat_lit 0, nat_lit 1, nat_lit 0, nat_lit 0, [])) (.leaf (nat_lit 23, nat_lit 9, nat_lit 2, nat_lit 310, nat_lit 5020, nat_lit 1, []))) (.branch (nat_lit 15) (.leaf (nat_lit 8, nat_lit 12, nat_lit 0, nat_lit 35, nat_lit 0, nat_lit 0, [])) (.branch (nat_lit 16) (.leaf (nat_lit 1, nat_lit 15, nat_lit 4, nat_lit 0, nat_lit 0, nat_lit 0, [])) (.leaf (nat_lit 14, nat_lit 16, nat_lit 10, nat_lit 36, nat_lit 5, nat_lit 2212, [])))))) (.branch (nat_lit 32) (.branch (nat_lit 23) (.branch (nat_lit 22) (.leaf (nat_lit 23, nat_lit 19, nat_lit 2, nat_lit 239, nat_lit 4152, nat_lit 36, [])) (.leaf (nat_lit 1, nat_lit 22, nat_lit 4, nat_lit 0, nat_lit 0, nat_lit 0, []))) (.branch (nat_lit 26) (.leaf (nat_lit 14, nat_lit 23, nat_lit 10, nat_lit 36, nat_lit 5, nat_lit 2212, [])) (.branch (nat_lit 29) (.leaf (nat_lit 14, nat_lit 26, nat_lit 3, nat_lit 180, nat_lit 0, nat_lit 1221, [])) (.leaf (nat_lit 14, nat_lit 29, nat_lit 8, nat_lit 181, nat_lit 2, nat_lit 1103, []))))) (.branch (nat_lit 36) (.branch (nat_lit 35) (.leaf (nat_lit 9, nat_lit 32, nat_lit 1, nat_lit 42, nat_lit 0, nat_lit 0, [])) (.leaf (nat_lit 1, nat_lit 35, nat_lit 4, nat_lit 0, nat_lit 0, nat_lit 0, []))) (.branch (nat_lit 38) (.leaf (nat_lit 0, nat_lit 36, nat_lit 1, nat_lit 8, nat_lit 0, nat_lit 0, [])) (.branch (nat_lit 41) (.leaf (nat_lit 23, nat_lit 38, nat_lit 2, nat_lit 102, nat_lit 3082, nat_lit 114, [])) (.leaf (nat_lit 24, nat_lit 41, nat_lit 1, nat_lit 0, nat_lit 0, nat_lit 0, []))))))), [nat_lit 5185, nat_lit 1001, nat_lit 5183, nat_lit 5184])
set_option maxRecDepth 100000 in
def q_M157 : qM × List Nat := ((yX10_twice, cX10_twice, nat_lit 3, some .int, nat_lit 10, nat_lit 2, nat_lit 0, nat_lit 0, nat_lit 0, .branch (nat_lit 9) (.branch (nat_lit 3) (.branch (nat_lit 1) (.leaf (nat_lit 0, nat_lit 0, nat_lit 0, nat_lit 0, nat_lit 0, nat_lit 0, [])) (.branch (nat_lit 2) (.leaf (nat_lit 2, nat_lit 1, nat_lit 0, nat_lit 1, nat_lit 0, nat_lit 0, [])) (.leaf (nat_lit 0, nat_lit 2, nat_lit 0, nat_lit 1, nat_lit 0, nat_lit 0, [])))) (.branch (nat_lit 5) (.branch (nat_lit 4) (.leaf (nat_lit 2, nat_lit 3, nat_lit 0, nat_lit 2, nat_lit 0, nat_lit 0, [])) (.leaf (nat_lit 1, nat_lit 4, nat_lit 0, nat_lit 2, nat_lit 0, nat_lit 0, []))) (.branch (nat_lit 6) (.leaf (nat_lit 1, nat_lit 5, nat_lit 4, nat_lit 0, nat_lit 0, nat_lit 0, [])) (.leaf (nat_lit 14, nat_lit 6, nat_lit 10, nat_lit 36, nat_lit 5, nat_lit 2212, []))))) (.branch (nat_lit 38) (.branch (nat_lit 12) (.leaf (nat_lit 14, nat_lit 9, nat_lit 3, nat_lit 180, nat_lit 0, nat_lit 1221, [])) (.branch (nat_lit 15) (.leaf (nat_lit 14, nat_lit 12, nat_lit 8, nat_lit 181, nat_lit 2, nat_lit 1103, [])) (.leaf (nat_lit 9, nat_lit 15, nat_lit 3, nat_lit 38, nat_lit 0, nat_lit 0, [])))) (.branch (nat_lit 40) (.branch (nat_lit 39) (.leaf (nat_lit 1, nat_lit 38, nat_lit 4, nat_lit 0, nat_lit 0, nat_lit 0, [])) (.leaf (nat_lit 1, nat_lit 39, nat_lit 0, nat_lit 1, nat_lit 0, nat_lit 0, []))) (.branch (nat_lit 43) (.leaf (nat_lit 23, nat_lit 40, nat_lit 2, nat_lit 106, nat_lit 4070, nat_lit 113, [])) (.leaf (nat_lit 24, nat_lit 43, nat_lit 1, nat_lit 0, nat_lit 0, nat_lit 0, [])))))), [nat_lit 5197, nat_lit 1001, nat_lit 5195, nat_lit 5196])
set_option maxRecDepth 100000 in
def q_M158 : qM × List Nat := ((yX10_twiceAt, cX10_twiceAt, nat_lit 4, some .int, nat_lit 10, nat_lit 2, nat_lit 1, nat_lit 0, nat_lit 0, .branch (nat_lit 9) (.branch (nat_lit 3) (.branch (nat_lit 1) (.leaf (nat_lit 0, nat_lit 0, nat_lit 0, nat_lit 0, nat_lit 0, nat_lit 0, [])) (.branch (nat_lit 2) (.leaf (nat_lit 2, nat_lit 1, nat_lit 0, nat_lit 2, nat_lit 0, nat_lit 0, [])) (.leaf (nat_lit 0, nat_lit 2, nat_lit 0, nat_lit 1, nat_lit 0, nat_lit 0, [])))) (.branch (nat_lit 5) (.branch (nat_lit 4) (.leaf (nat_lit 2, nat_lit 3, nat_lit 0, nat_lit 3, nat_lit 0, nat_lit 0, [])) (.leaf (nat_lit 1, nat_lit 4, nat_lit 0, nat_lit 3, nat_lit 0, nat_lit 0, []))) (.branch (nat_lit 6) (.leaf (nat_lit 1, nat_lit 5, nat_lit 4, nat_lit 0, nat_lit 0, nat_lit 0, [])) (.leaf (nat_lit 14, nat_lit 6, nat_lit 10, nat_lit 36, nat_lit 5, nat_lit 2212, []))))) (.branch (nat_lit 49) (.branch (nat_lit 12) (.leaf (nat_lit 14, nat_lit 9, nat_lit 3, nat_lit 180, nat_lit 0, nat_lit 1221, [])) (.branch (nat_lit 15) (.leaf (nat_lit 14, nat_lit 12, nat_lit 8, nat_lit 181, nat_lit 2, nat_lit 1103, [])) (.leaf (nat_lit 9, nat_lit 15, nat_lit 3, nat_lit 49, nat_lit 0, nat_lit 0, [])))) (.branch (nat_lit 52) (.branch (nat_lit 50) (.leaf (nat_lit 1, nat_lit 49, nat_lit 4, nat_lit 0, nat_lit 0, nat_lit 0, [])) (.leaf (nat_lit 0, nat_lit 50, nat_lit 1, nat_lit 8, nat_lit 0, nat_lit 0, []))) (.branch (nat_lit 55) (.leaf (nat_lit 23, nat_lit 52, nat_lit 2, nat_lit 102, nat_lit 3082, nat_lit 114, [])) (.leaf (nat_lit 24, nat_lit 55, nat_lit 1, nat_lit 0, nat_lit 0, nat_lit 0, [])))))), [nat_lit 5205, nat_lit 1001, nat_lit 5203, nat_lit 5204])
set_option maxRecDepth 100000 in
def q_M159 : qM × List Nat := ((yX10_fits, cX10_fits, nat_lit 8, some .int, nat_lit 10, nat_lit 2, nat_lit 3, nat_lit 0, nat_lit 0, .branch (nat_lit 14) (.branch (nat_lit 7) (.branch (nat_lit 2) (.branch (nat_lit 1) (.leaf (nat_lit 1, nat_lit 0, nat_lit 4, nat_lit 0, nat_lit 0, nat_lit 0, [])) (.leaf (nat_lit 1, nat_lit 1, nat_lit 0, nat_lit 1, nat_lit 0, nat_lit 0, []))) (.branch (nat_lit 5) (.leaf (nat_lit 23, nat_lit 2, nat_lit 2, nat_lit 121, nat_lit 3041, nat_lit 120, [])) (.leaf (nat_lit 2, nat_lit 5, nat_lit 5, nat_lit 4, nat_lit 0, nat_lit 0, [])))) (.branch (nat_lit 12) (.branch (nat_lit 9) (.leaf (nat_lit 1, nat_lit 7, nat_lit 5, nat_lit 4, nat_lit 0, nat_lit 0, [])) (.leaf (nat_lit 27, nat_lit 9, nat_lit 0, nat_lit 18, nat_lit 0, nat_lit 0, []))) (.branch (nat_lit 13) (.leaf (nat_lit 1, nat_lit 12, nat_lit 4, nat_lit 0, nat_lit 0, nat_lit 0, [])) (.leaf (nat_lit 0, nat_lit 13, nat_lit 0, nat_lit 1, nat_lit 0, nat_lit 0, []))))) (.branch (nat_lit 23) (.branch (nat_lit 18) (.branch (nat_lit 17) (.leaf (nat_lit 23, nat_lit 14, nat_lit 2, nat_lit 102, nat_lit 3082, nat_lit 114, [])) (.leaf (nat_lit 24, nat_lit 17, nat_lit 1, nat_lit 0, nat_lit 0, nat_lit 0, []))) (.branch (nat_lit 20) (.leaf (nat_lit 1, nat_lit 18, nat_lit 5, nat_lit 4, nat_lit 0, nat_lit 0, [])) (.leaf (nat_lit 14, nat_lit 20, nat_lit 6, nat_lit 113, nat_lit 1, nat_lit 2192, [])))) (.branch (nat_lit 27) (.branch (nat_lit 26) (.leaf (nat_lit 8, nat_lit 23, nat_lit 0, nat_lit 32, nat_lit 0, nat_lit 0, [])) (.leaf (nat_lit 1, nat_lit 26, nat_lit 4, nat_lit 0, nat_lit 0, nat_lit 0, []))) (.branch (nat_lit 28) (.leaf (nat_lit 0, nat_lit 27, nat_lit 0, nat_lit 3, nat_lit 0, nat_lit 0, [])) (.branch (nat_lit 31) (.leaf (nat_lit 23, nat_lit 28, nat_lit 2, nat_lit 102, nat_lit 3082, nat_lit 114, [])) (.leaf (nat_lit 24, nat_lit 31, nat_lit 1, nat_lit 0, nat_lit 0, nat_lit 0, []))))))), [nat_lit 5209, nat_lit 1001, nat_lit 5207, nat_lit 5208])
set_option maxRecDepth 100000 in
def q_M162 : qM × List Nat := ((yX10_isCount, cX10_isCount, nat_lit 2, some .boolean, nat_lit 10, nat_lit 0, nat_lit 2, nat_lit 0, nat_lit 0, .branch (nat_lit 12) (.branch (nat_lit 4) (.branch (nat_lit 1) (.leaf (nat_lit 1, nat_lit 0, nat_lit 0, nat_lit 0, nat_lit 0, nat_lit 0, [])) (.branch (nat_lit 2) (.leaf (nat_lit 0, nat_lit 1, nat_lit 0, nat_lit 2, nat_lit 0, nat_lit 0, [])) (.leaf (nat_lit 0, nat_lit 2, nat_lit 1, nat_lit 13, nat_lit 0, nat_lit 0, [])))) (.branch (nat_lit 10) (.branch (nat_lit 7) (.leaf (nat_lit 23, nat_lit 4, nat_lit 0, nat_lit 109, nat_lit 3045, nat_lit 119, [])) (.leaf (nat_lit 8, nat_lit 7, nat_lit 0, nat_lit 23, nat_lit 0, nat_lit 0, []))) (.branch (nat_lit 11) (.leaf (nat_lit 1, nat_lit 10, nat_lit 0, nat_lit 1, nat_lit 0, nat_lit 0, [])) (.leaf (nat_lit 0, nat_lit 11, nat_lit 0, nat_lit 1, nat_lit 0, nat_lit 0, []))))) (.branch (nat_lit 19) (.branch (nat_lit 13) (.leaf (nat_lit 1, nat_lit 12, nat_lit 0, nat_lit 0, nat_lit 0, nat_lit 0, [])) (.branch (nat_lit 16) (.leaf (nat_lit 23, nat_lit 13, nat_lit 0, nat_lit 109, nat_lit 3045, nat_lit 119, [])) (.leaf (nat_lit 8, nat_lit 16, nat_lit 0, nat_lit 23, nat_lit 0, nat_lit 0, [])))) (.branch (nat_lit 23) (.branch (nat_lit 20) (.leaf (nat_lit 0, nat_lit 19, nat_lit 0, nat_lit 1, nat_lit 0, nat_lit 0, [])) (.leaf (nat_lit 10, nat_lit 20, nat_lit 0, nat_lit 24, nat_lit 0, nat_lit 0, []))) (.branch (nat_lit 24) (.leaf (nat_lit 0, nat_lit 23, nat_lit 0, nat_lit 0, nat_lit 0, nat_lit 0, [])) (.leaf (nat_lit 24, nat_lit 24, nat_lit 1, nat_lit 0, nat_lit 0, nat_lit 0, [])))))), [nat_lit 5224, nat_lit 1001, nat_lit 5223, nat_lit 0])
set_option maxRecDepth 100000 in
def q_M164 : qM × List Nat := ((yX10_both, cX10_both, nat_lit 8, some .int, nat_lit 10, nat_lit 2, nat_lit 4, nat_lit 0, nat_lit 0, .branch (nat_lit 41) (.branch (nat_lit 22) (.branch (nat_lit 9) (.branch (nat_lit 2) (.branch (nat_lit 1) (.leaf (nat_lit 1, nat_lit 0, nat_lit 0, nat_lit 1, nat_lit 0, nat_lit 0, [])) (.leaf (nat_lit 1, nat_lit 1, nat_lit 0, nat_lit 2, nat_lit 0, nat_lit 0, []))) (.branch (nat_lit 5) (.leaf (nat_lit 23, nat_lit 2, nat_lit 0, nat_lit 382, nat_lit 5222, nat_lit 162, [])) (.branch (nat_lit 8) (.leaf (nat_lit 8, nat_lit 5, nat_lit 0, nat_lit 17, nat_lit 0, nat_lit 0, [])) (.leaf (nat_lit 1, nat_lit 8, nat_lit 0, nat_lit 3, nat_lit 0, nat_lit 0, []))))) (.branch (nat_lit 17) (.branch (nat_lit 11) (.leaf (nat_lit 1, nat_lit 9, nat_lit 1, nat_lit 4, nat_lit 0, nat_lit 0, [])) (.branch (nat_lit 14) (.leaf (nat_lit 23, nat_lit 11, nat_lit 0, nat_lit 382, nat_lit 5222, nat_lit 162, [])) (.leaf (nat_lit 8, nat_lit 14, nat_lit 1, nat_lit 23, nat_lit 0, nat_lit 0, [])))) (.branch (nat_lit 18) (.leaf (nat_lit 1, nat_lit 17, nat_lit 4, nat_lit 0, nat_lit 0, nat_lit 0, [])) (.branch (nat_lit 19) (.leaf (nat_lit 0, nat_lit 18, nat_lit 0, nat_lit 5, nat_lit 0, nat_lit 0, [])) (.leaf (nat_lit 23, nat_lit 19, nat_lit 2, nat_lit 102, nat_lit 3082, nat_lit 114, [])))))) (.branch (nat_lit 31) (.branch (nat_lit 26) (.branch (nat_lit 23) (.leaf (nat_lit 24, nat_lit 22, nat_lit 1, nat_lit 0, nat_lit 0, nat_lit 0, [])) (.branch (nat_lit 24) (.leaf (nat_lit 1, nat_lit 23, nat_lit 0, nat_lit 2, nat_lit 0, nat_lit 0, [])) (.leaf (nat_lit 2, nat_lit 24, nat_lit 1, nat_lit 5, nat_lit 0, nat_lit 0, [])))) (.branch (nat_lit 28) (.leaf (nat_lit 1, nat_lit 26, nat_lit 1, nat_lit 4, nat_lit 0, nat_lit 0, [])) (.branch (nat_lit 30) (.leaf (nat_lit 2, nat_lit 28, nat_lit 1, nat_lit 6, nat_lit 0, nat_lit 0, [])) (.leaf (nat_lit 0, nat_lit 30, nat_lit 0, nat_lit 0, nat_lit 0, nat_lit 0, []))))) (.branch (nat_lit 36) (.branch (nat_lit 33) (.leaf (nat_lit 2, nat_lit 31, nat_lit 1, nat_lit 7, nat_lit 0, nat_lit 0, [])) (.branch (nat_lit 35) (.leaf (nat_lit 1, nat_lit 33, nat_lit 1, nat_lit 7, nat_lit 0, nat_lit 0, [])) (.leaf (nat_lit 1, nat_lit 35, nat_lit 0, nat_lit 1, nat_lit 0, nat_lit 0, [])))) (.branch (nat_lit 37) (.leaf (nat_lit 1, nat_lit 36, nat_lit 0, nat_lit 3, nat_lit 0, nat_lit 0, [])) (.branch (nat_lit 38) (.leaf (nat_lit 4, nat_lit 37, nat_lit 2, nat_lit 0, nat_lit 0, nat_lit 0, [])) (.leaf (nat_lit 9, nat_lit 38, nat_lit 3, nat_lit 82, nat_lit 0, nat_lit 0, []))))))) (.branch (nat_lit 63) (.branch (nat_lit 53) (.branch (nat_lit 47) (.branch (nat_lit 43) (.leaf (nat_lit 1, nat_lit 41, nat_lit 1, nat_lit 5, nat_lit 0, nat_lit 0, [])) (.branch (nat_lit 44) (.leaf (nat_lit 1, nat_lit 43, nat_lit 0, nat_lit 1, nat_lit 0, nat_lit 0, [])) (.leaf (nat_lit 9, nat_lit 44, nat_lit 1, nat_lit 60, nat_lit 0, nat_lit 0, [])))) (.branch (nat_lit 49) (.leaf (nat_lit 1, nat_lit 47, nat_lit 1, nat_lit 6, nat_lit 0, nat_lit 0, [])) (.branch (nat_lit 50) (.leaf (nat_lit 1, nat_lit 49, nat_lit 0, nat_lit 3, nat_lit 0, nat_lit 0, [])) (.leaf (nat_lit 9, nat_lit 50, nat_lit 1, nat_lit 60, nat_lit 0, nat_lit 0, []))))) (.branch (nat_lit 59) (.branch (nat_lit 54) (.leaf (nat_lit 1, nat_lit 53, nat_lit 4, nat_lit 0, nat_lit 0, nat_lit 0, [])) (.branch (nat_lit 56) (.leaf (nat_lit 1, nat_lit 54, nat_lit 1, nat_lit 7, nat_lit 0, nat_lit 0, [])) (.leaf (nat_lit 23, nat_lit 56, nat_lit 2, nat_lit 106, nat_lit 4070, nat_lit 113, [])))) (.branch (nat_lit 60) (.leaf (nat_lit 24, nat_lit 59, nat_lit 1, nat_lit 0, nat_lit 0, nat_lit 0, [])) (.branch (nat_lit 62) (.leaf (nat_lit 1, nat_lit 60, nat_lit 1, nat_lit 5, nat_lit 0, nat_lit 0, [])) (.leaf (nat_lit 1, nat_lit 62, nat_lit 0, nat_lit 1, nat_lit 0, nat_lit 0, [])))))) (.branch (nat_lit 76) (.branch (nat_lit 70) (.branch (nat_lit 66) (.leaf (nat_lit 23, nat_lit 63, nat_lit 0, nat_lit 385, nat_lit 5225, nat_lit 163, [])) (.branch (nat_lit 68) (.leaf (nat_lit 2, nat_lit 66, nat_lit 1, nat_lit 5, nat_lit 0, nat_lit 0, [])) (.leaf (nat_lit 1, nat_lit 68, nat_lit 1, nat_lit 6, nat_lit 0, nat_lit 0, [])))) (.branch (nat_lit 71) (.leaf (nat_lit 1, nat_lit 70, nat_lit 0, nat_lit 3, nat_lit 0, nat_lit 0, [])) (.branch (nat_lit 74) (.leaf (nat_lit 23, nat_lit 71, nat_lit 0, nat_lit 385, nat_lit 5225, nat_lit 163, [])) (.leaf (nat_lit 2, nat_lit 74, nat_lit 1, nat_lit 6, nat_lit 0, nat_lit 0, []))))) (.branch (nat_lit 83) (.branch (nat_lit 79) (.leaf (nat_lit 3, nat_lit 76, nat_lit 0, nat_lit 7, nat_lit 1, nat_lit 0, [])) (.branch (nat_lit 82) (.leaf (nat_lit 10, nat_lit 79, nat_lit 0, nat_lit 33, nat_lit 0, nat_lit 0, [])) (.leaf (nat_lit 1, nat_lit 82, nat_lit 4, nat_lit 0, nat_lit 0, nat_lit 0, [])))) (.branch (nat_lit 85) (.leaf (nat_lit 0, nat_lit 83, nat_lit 1, nat_lit 8, nat_lit 0, nat_lit 0, [])) (.branch (nat_lit 88) (.leaf (nat_lit 23, nat_lit 85, nat_lit 2, nat_lit 102, nat_lit 3082, nat_lit 114, [])) (.leaf (nat_lit 24, nat_lit 88, nat_lit 1, nat_lit 0, nat_lit 0, nat_lit 0, [])))))))), [nat_lit 5221, nat_lit 1001, nat_lit 5219, nat_lit 5220])
set_option maxRecDepth 100000 in
def q_M165 : qM × List Nat := ((yX10_join, cX10_join, nat_lit 9, some .int, nat_lit 10, nat_lit 2, nat_lit 3, nat_lit 0, nat_lit 0, .branch (nat_lit 24) (.branch (nat_lit 10) (.branch (nat_lit 5) (.branch (nat_lit 1) (.leaf (nat_lit 1, nat_lit 0, nat_lit 0, nat_lit 1, nat_lit 0, nat_lit 0, [])) (.branch (nat_lit 2) (.leaf (nat_lit 1, nat_lit 1, nat_lit 0, nat_lit 2, nat_lit 0, nat_lit 0, [])) (.leaf (nat_lit 23, nat_lit 2, nat_lit 0, nat_lit 382, nat_lit 5222, nat_lit 162, [])))) (.branch (nat_lit 8) (.leaf (nat_lit 8, nat_lit 5, nat_lit 0, nat_lit 19, nat_lit 0, nat_lit 0, [])) (.branch (nat_lit 9) (.leaf (nat_lit 1, nat_lit 8, nat_lit 0, nat_lit 3, nat_lit 0, nat_lit 0, [])) (.leaf (nat_lit 0, nat_lit 9, nat_lit 0, nat_lit 1, nat_lit 0, nat_lit 0, []))))) (.branch (nat_lit 19) (.branch (nat_lit 13) (.leaf (nat_lit 0, nat_lit 10, nat_lit 2, nat_lit 200, nat_lit 0, nat_lit 0, [])) (.branch (nat_lit 16) (.leaf (nat_lit 23, nat_lit 13, nat_lit 0, nat_lit 109, nat_lit 3045, nat_lit 119, [])) (.leaf (nat_lit 8, nat_lit 16, nat_lit 1, nat_lit 25, nat_lit 0, nat_lit 0, [])))) (.branch (nat_lit 20) (.leaf (nat_lit 1, nat_lit 19, nat_lit 4, nat_lit 0, nat_lit 0, nat_lit 0, [])) (.branch (nat_lit 21) (.leaf (nat_lit 0, nat_lit 20, nat_lit 0, nat_lit 5, nat_lit 0, nat_lit 0, [])) (.leaf (nat_lit 23, nat_lit 21, nat_lit 2, nat_lit 102, nat_lit 3082, nat_lit 114, [])))))) (.branch (nat_lit 36) (.branch (nat_lit 29) (.branch (nat_lit 25) (.leaf (nat_lit 24, nat_lit 24, nat_lit 1, nat_lit 0, nat_lit 0, nat_lit 0, [])) (.branch (nat_lit 26) (.leaf (nat_lit 1, nat_lit 25, nat_lit 4, nat_lit 0, nat_lit 0, nat_lit 0, [])) (.leaf (nat_lit 14, nat_lit 26, nat_lit 10, nat_lit 36, nat_lit 5, nat_lit 2212, [])))) (.branch (nat_lit 32) (.leaf (nat_lit 14, nat_lit 29, nat_lit 3, nat_lit 180, nat_lit 0, nat_lit 1221, [])) (.branch (nat_lit 34) (.leaf (nat_lit 2, nat_lit 32, nat_lit 5, nat_lit 4, nat_lit 0, nat_lit 0, [])) (.leaf (nat_lit 1, nat_lit 34, nat_lit 5, nat_lit 4, nat_lit 0, nat_lit 0, []))))) (.branch (nat_lit 43) (.branch (nat_lit 39) (.leaf (nat_lit 14, nat_lit 36, nat_lit 8, nat_lit 181, nat_lit 2, nat_lit 1103, [])) (.branch (nat_lit 42) (.leaf (nat_lit 8, nat_lit 39, nat_lit 1, nat_lit 49, nat_lit 0, nat_lit 0, [])) (.leaf (nat_lit 1, nat_lit 42, nat_lit 4, nat_lit 0, nat_lit 0, nat_lit 0, [])))) (.branch (nat_lit 45) (.leaf (nat_lit 0, nat_lit 43, nat_lit 1, nat_lit 8, nat_lit 0, nat_lit 0, [])) (.branch (nat_lit 48) (.leaf (nat_lit 23, nat_lit 45, nat_lit 2, nat_lit 102, nat_lit 3082, nat_lit 114, [])) (.leaf (nat_lit 24, nat_lit 48, nat_lit 1, nat_lit 0, nat_lit 0, nat_lit 0, []))))))), [nat_lit 5229, nat_lit 1001, nat_lit 5227, nat_lit 5228])
set_option maxRecDepth 100000 in
def q_M166 : qM × List Nat := ((yX10_years, cX10_years, nat_lit 5, some .int, nat_lit 10, nat_lit 2, nat_lit 0, nat_lit 0, nat_lit 0, .branch (nat_lit 12) (.branch (nat_lit 8) (.branch (nat_lit 4) (.branch (nat_lit 1) (.leaf (nat_lit 1, nat_lit 0, nat_lit 4, nat_lit 0, nat_lit 0, nat_lit 0, [])) (.leaf (nat_lit 14, nat_lit 1, nat_lit 10, nat_lit 36, nat_lit 5, nat_lit 2212, []))) (.branch (nat_lit 7) (.leaf (nat_lit 14, nat_lit 4, nat_lit 3, nat_lit 180, nat_lit 0, nat_lit 1221, [])) (.leaf (nat_lit 2, nat_lit 7, nat_lit 4, nat_lit 1, nat_lit 0, nat_lit 0, [])))) (.branch (nat_lit 10) (.branch (nat_lit 9) (.leaf (nat_lit 0, nat_lit 8, nat_lit 0, nat_lit 0, nat_lit 0, nat_lit 0, [])) (.leaf (nat_lit 2, nat_lit 9, nat_lit 0, nat_lit 2, nat_lit 0, nat_lit 0, []))) (.branch (nat_lit 11) (.leaf (nat_lit 0, nat_lit 10, nat_lit 0, nat_lit 0, nat_lit 0, nat_lit 0, [])) (.leaf (nat_lit 2, nat_lit 11, nat_lit 0, nat_lit 3, nat_lit 0, nat_lit 0, []))))) (.branch (nat_lit 122) (.branch (nat_lit 14) (.branch (nat_lit 13) (.leaf (nat_lit 1, nat_lit 12, nat_lit 0, nat_lit 3, nat_lit 0, nat_lit 0, [])) (.leaf (nat_lit 1, nat_lit 13, nat_lit 4, nat_lit 1, nat_lit 0, nat_lit 0, []))) (.branch (nat_lit 17) (.leaf (nat_lit 14, nat_lit 14, nat_lit 8, nat_lit 181, nat_lit 2, nat_lit 1103, [])) (.leaf (nat_lit 9, nat_lit 17, nat_lit 3, nat_lit 122, nat_lit 0, nat_lit 0, [])))) (.branch (nat_lit 124) (.branch (nat_lit 123) (.leaf (nat_lit 1, nat_lit 122, nat_lit 4, nat_lit 0, nat_lit 0, nat_lit 0, [])) (.leaf (nat_lit 1, nat_lit 123, nat_lit 0, nat_lit 2, nat_lit 0, nat_lit 0, []))) (.branch (nat_lit 127) (.leaf (nat_lit 23, nat_lit 124, nat_lit 2, nat_lit 106, nat_lit 4070, nat_lit 113, [])) (.leaf (nat_lit 24, nat_lit 127, nat_lit 1, nat_lit 0, nat_lit 0, nat_lit 0, [])))))), [nat_lit 5233, nat_lit 1001, nat_lit 5231, nat_lit 5232])
set_option maxRecDepth 100000 in
def q_M167 : qM × List Nat := ((yX10_against, cX10_against, nat_lit 5, some .int, nat_lit 10, nat_lit 2, nat_lit 0, nat_lit 0, nat_lit 0, .branch (nat_lit 12) (.branch (nat_lit 8) (.branch (nat_lit 4) (.branch (nat_lit 1) (.leaf (nat_lit 1, nat_lit 0, nat_lit 4, nat_lit 0, nat_lit 0, nat_lit 0, [])) (.leaf (nat_lit 14, nat_lit 1, nat_lit 10, nat_lit 36, nat_lit 5, nat_lit 2212, []))) (.branch (nat_lit 7) (.leaf (nat_lit 14, nat_lit 4, nat_lit 3, nat_lit 180, nat_lit 0, nat_lit 1221, [])) (.leaf (nat_lit 2, nat_lit 7, nat_lit 4, nat_lit 1, nat_lit 0, nat_lit 0, [])))) (.branch (nat_lit 10) (.branch (nat_lit 9) (.leaf (nat_lit 0, nat_lit 8, nat_lit 0, nat_lit 0, nat_lit 0, nat_lit 0, [])) (.leaf (nat_lit 2, nat_lit 9, nat_lit 0, nat_lit 2, nat_lit 0, nat_lit 0, []))) (.branch (nat_lit 11) (.leaf (nat_lit 0, nat_lit 10, nat_lit 0, nat_lit 0, nat_lit 0, nat_lit 0, [])) (.leaf (nat_lit 2, nat_lit 11, nat_lit 0, nat_lit 3, nat_lit 0, nat_lit 0, []))))) (.branch (nat_lit 77) (.branch (nat_lit 14) (.branch (nat_lit 13) (.leaf (nat_lit 1, nat_lit 12, nat_lit 0, nat_lit 3, nat_lit 0, nat_lit 0, [])) (.leaf (nat_lit 1, nat_lit 13, nat_lit 4, nat_lit 1, nat_lit 0, nat_lit 0, []))) (.branch (nat_lit 17) (.leaf (nat_lit 14, nat_lit 14, nat_lit 8, nat_lit 181, nat_lit 2, nat_lit 1103, [])) (.leaf (nat_lit 9, nat_lit 17, nat_lit 3, nat_lit 77, nat_lit 0, nat_lit 0, [])))) (.branch (nat_lit 79) (.branch (nat_lit 78) (.leaf (nat_lit 1, nat_lit 77, nat_lit 4, nat_lit 0, nat_lit 0, nat_lit 0, [])) (.leaf (nat_lit 1, nat_lit 78, nat_lit 0, nat_lit 2, nat_lit 0, nat_lit 0, []))) (.branch (nat_lit 82) (.leaf (nat_lit 23, nat_lit 79, nat_lit 2, nat_lit 106, nat_lit 4070, nat_lit 113, [])) (.leaf (nat_lit 24, nat_lit 82, nat_lit 1, nat_lit 0, nat_lit 0, nat_lit 0, [])))))), [nat_lit 6002, nat_lit 1001, nat_lit 6000, nat_lit 6001])
set_option maxRecDepth 100000 in
def q_M168 : qM × List Nat := ((yX10_dated, cX10_dated, nat_lit 5, some .int, nat_lit 10, nat_lit 2, nat_lit 2, nat_lit 0, nat_lit 0, .branch (nat_lit 11) (.branch (nat_lit 4) (.branch (nat_lit 1) (.leaf (nat_lit 1, nat_lit 0, nat_lit 4, nat_lit 0, nat_lit 0, nat_lit 0, [])) (.leaf (nat_lit 14, nat_lit 1, nat_lit 10, nat_lit 36, nat_lit 5, nat_lit 2212, []))) (.branch (nat_lit 7) (.leaf (nat_lit 14, nat_lit 4, nat_lit 3, nat_lit 180, nat_lit 0, nat_lit 1221, [])) (.branch (nat_lit 8) (.leaf (nat_lit 1, nat_lit 7, nat_lit 0, nat_lit 1, nat_lit 0, nat_lit 0, [])) (.leaf (nat_lit 23, nat_lit 8, nat_lit 2, nat_lit 243, nat_lit 4160, nat_lit 80, []))))) (.branch (nat_lit 15) (.branch (nat_lit 14) (.leaf (nat_lit 8, nat_lit 11, nat_lit 1, nat_lit 20, nat_lit 0, nat_lit 0, [])) (.leaf (nat_lit 1, nat_lit 14, nat_lit 4, nat_lit 0, nat_lit 0, nat_lit 0, []))) (.branch (nat_lit 16) (.leaf (nat_lit 0, nat_lit 15, nat_lit 0, nat_lit 2, nat_lit 0, nat_lit 0, [])) (.branch (nat_lit 19) (.leaf (nat_lit 23, nat_lit 16, nat_lit 2, nat_lit 102, nat_lit 3082, nat_lit 114, [])) (.leaf (nat_lit 24, nat_lit 19, nat_lit 1, nat_lit 0, nat_lit 0, nat_lit 0, [])))))), [nat_lit 6006, nat_lit 1001, nat_lit 6004, nat_lit 6005])
set_option maxRecDepth 100000 in
def q_M169 : qM × List Nat := ((yX10_hammer, cX10_hammer, nat_lit 2, some .boolean, nat_lit 10, nat_lit 2, nat_lit 1, nat_lit 0, nat_lit 0, .branch (nat_lit 11) (.branch (nat_lit 4) (.branch (nat_lit 1) (.leaf (nat_lit 1, nat_lit 0, nat_lit 4, nat_lit 0, nat_lit 0, nat_lit 0, [])) (.leaf (nat_lit 14, nat_lit 1, nat_lit 10, nat_lit 36, nat_lit 5, nat_lit 2212, []))) (.branch (nat_lit 7) (.leaf (nat_lit 14, nat_lit 4, nat_lit 3, nat_lit 180, nat_lit 0, nat_lit 1221, [])) (.branch (nat_lit 8) (.leaf (nat_lit 1, nat_lit 7, nat_lit 0, nat_lit 1, nat_lit 0, nat_lit 0, [])) (.leaf (nat_lit 23, nat_lit 8, nat_lit 2, nat_lit 243, nat_lit 4160, nat_lit 80, []))))) (.branch (nat_lit 15) (.branch (nat_lit 14) (.leaf (nat_lit 8, nat_lit 11, nat_lit 1, nat_lit 20, nat_lit 0, nat_lit 0, [])) (.leaf (nat_lit 1, nat_lit 14, nat_lit 4, nat_lit 0, nat_lit 0, nat_lit 0, []))) (.branch (nat_lit 16) (.leaf (nat_lit 0, nat_lit 15, nat_lit 0, nat_lit 2, nat_lit 0, nat_lit 0, [])) (.branch (nat_lit 19) (.leaf (nat_lit 23, nat_lit 16, nat_lit 2, nat_lit 125, nat_lit 3048, nat_lit 116, [])) (.leaf (nat_lit 24, nat_lit 19, nat_lit 1, nat_lit 0, nat_lit 0, nat_lit 0, [])))))), [nat_lit 6018, nat_lit 1001, nat_lit 6016, nat_lit 6017])
set_option maxRecDepth 100000 in
def q_M170 : qM × List Nat := ((yX10_canWalk, cX10_canWalk, nat_lit 1, some .boolean, nat_lit 10, nat_lit 2, nat_lit 0, nat_lit 0, nat_lit 0, .branch (nat_lit 7) (.branch (nat_lit 1) (.leaf (nat_lit 1, nat_lit 0, nat_lit 4, nat_lit 0, nat_lit 0, nat_lit 0, [])) (.branch (nat_lit 4) (.leaf (nat_lit 14, nat_lit 1, nat_lit 10, nat_lit 36, nat_lit 5, nat_lit 2212, [])) (.leaf (nat_lit 14, nat_lit 4, nat_lit 3, nat_lit 206, nat_lit 3, nat_lit 1230, [])))) (.branch (nat_lit 27) (.leaf (nat_lit 8, nat_lit 7, nat_lit 0, nat_lit 27, nat_lit 0, nat_lit 0, [])) (.branch (nat_lit 28) (.leaf (nat_lit 0, nat_lit 27, nat_lit 0, nat_lit 0, nat_lit 0, nat_lit 0, [])) (.leaf (nat_lit 24, nat_lit 28, nat_lit 1, nat_lit 0, nat_lit 0, nat_lit 0, []))))), [nat_lit 6026, nat_lit 1001, nat_lit 6025, nat_lit 39])
set_option maxRecDepth 100000 in
def q_M171 : qM × List Nat := ((yX10_walk, cX10_walk, nat_lit 3, some .int, nat_lit 10, nat_lit 2, nat_lit 2, nat_lit 0, nat_lit 0, .branch (nat_lit 21) (.branch (nat_lit 11) (.branch (nat_lit 2) (.branch (nat_lit 1) (.leaf (nat_lit 1, nat_lit 0, nat_lit 0, nat_lit 1, nat_lit 0, nat_lit 0, [])) (.leaf (nat_lit 0, nat_lit 1, nat_lit 0, nat_lit 0, nat_lit 0, nat_lit 0, []))) (.branch (nat_lit 5) (.leaf (nat_lit 0, nat_lit 2, nat_lit 2, nat_lit 9999, nat_lit 0, nat_lit 0, [])) (.branch (nat_lit 8) (.leaf (nat_lit 23, nat_lit 5, nat_lit 0, nat_lit 109, nat_lit 3045, nat_lit 119, [])) (.leaf (nat_lit 8, nat_lit 8, nat_lit 0, nat_lit 21, nat_lit 0, nat_lit 0, []))))) (.branch (nat_lit 13) (.branch (nat_lit 12) (.leaf (nat_lit 1, nat_lit 11, nat_lit 0, nat_lit 2, nat_lit 0, nat_lit 0, [])) (.leaf (nat_lit 0, nat_lit 12, nat_lit 0, nat_lit 0, nat_lit 0, nat_lit 0, []))) (.branch (nat_lit 15) (.leaf (nat_lit 0, nat_lit 13, nat_lit 1, nat_lit 16, nat_lit 0, nat_lit 0, [])) (.branch (nat_lit 18) (.leaf (nat_lit 23, nat_lit 15, nat_lit 0, nat_lit 109, nat_lit 3045, nat_lit 119, [])) (.leaf (nat_lit 8, nat_lit 18, nat_lit 1, nat_lit 27, nat_lit 0, nat_lit 0, [])))))) (.branch (nat_lit 28) (.branch (nat_lit 23) (.branch (nat_lit 22) (.leaf (nat_lit 1, nat_lit 21, nat_lit 4, nat_lit 0, nat_lit 0, nat_lit 0, [])) (.leaf (nat_lit 0, nat_lit 22, nat_lit 0, nat_lit 5, nat_lit 0, nat_lit 0, []))) (.branch (nat_lit 26) (.leaf (nat_lit 23, nat_lit 23, nat_lit 2, nat_lit 102, nat_lit 3082, nat_lit 114, [])) (.branch (nat_lit 27) (.leaf (nat_lit 24, nat_lit 26, nat_lit 1, nat_lit 0, nat_lit 0, nat_lit 0, [])) (.leaf (nat_lit 1, nat_lit 27, nat_lit 4, nat_lit 0, nat_lit 0, nat_lit 0, []))))) (.branch (nat_lit 35) (.branch (nat_lit 31) (.leaf (nat_lit 23, nat_lit 28, nat_lit 2, nat_lit 397, nat_lit 6023, nat_lit 170, [])) (.branch (nat_lit 34) (.leaf (nat_lit 8, nat_lit 31, nat_lit 1, nat_lit 41, nat_lit 0, nat_lit 0, [])) (.leaf (nat_lit 1, nat_lit 34, nat_lit 4, nat_lit 0, nat_lit 0, nat_lit 0, [])))) (.branch (nat_lit 37) (.leaf (nat_lit 0, nat_lit 35, nat_lit 1, nat_lit 8, nat_lit 0, nat_lit 0, [])) (.branch (nat_lit 40) (.leaf (nat_lit 23, nat_lit 37, nat_lit 2, nat_lit 102, nat_lit 3082, nat_lit 114, [])) (.leaf (nat_lit 24, nat_lit 40, nat_lit 1, nat_lit 0, nat_lit 0, nat_lit 0, []))))))), [nat_lit 6022, nat_lit 1001, nat_lit 6020, nat_lit 6021])
set_option maxRecDepth 100000 in
def q_M172 : qM × List Nat := ((yX10_walked, cX10_walked, nat_lit 2, some .int, nat_lit 10, nat_lit 2, nat_lit 1, nat_lit 0, nat_lit 0, .branch (nat_lit 14) (.branch (nat_lit 6) (.branch (nat_lit 2) (.branch (nat_lit 1) (.leaf (nat_lit 1, nat_lit 0, nat_lit 0, nat_lit 1, nat_lit 0, nat_lit 0, [])) (.leaf (nat_lit 0, nat_lit 1, nat_lit 0, nat_lit 0, nat_lit 0, nat_lit 0, []))) (.branch (nat_lit 3) (.leaf (nat_lit 0, nat_lit 2, nat_lit 0, nat_lit 3, nat_lit 0, nat_lit 0, [])) (.leaf (nat_lit 23, nat_lit 3, nat_lit 0, nat_lit 109, nat_lit 3045, nat_lit 119, [])))) (.branch (nat_lit 10) (.branch (nat_lit 9) (.leaf (nat_lit 8, nat_lit 6, nat_lit 1, nat_lit 15, nat_lit 0, nat_lit 0, [])) (.leaf (nat_lit 1, nat_lit 9, nat_lit 4, nat_lit 0, nat_lit 0, nat_lit 0, []))) (.branch (nat_lit 11) (.leaf (nat_lit 0, nat_lit 10, nat_lit 0, nat_lit 5, nat_lit 0, nat_lit 0, [])) (.leaf (nat_lit 23, nat_lit 11, nat_lit 2, nat_lit 102, nat_lit 3082, nat_lit 114, []))))) (.branch (nat_lit 22) (.branch (nat_lit 16) (.branch (nat_lit 15) (.leaf (nat_lit 24, nat_lit 14, nat_lit 1, nat_lit 0, nat_lit 0, nat_lit 0, [])) (.leaf (nat_lit 1, nat_lit 15, nat_lit 4, nat_lit 0, nat_lit 0, nat_lit 0, []))) (.branch (nat_lit 19) (.leaf (nat_lit 14, nat_lit 16, nat_lit 10, nat_lit 78, nat_lit 12, nat_lit 2219, [])) (.leaf (nat_lit 14, nat_lit 19, nat_lit 7, nat_lit 409, nat_lit 6, nat_lit 2148, [])))) (.branch (nat_lit 26) (.branch (nat_lit 25) (.leaf (nat_lit 8, nat_lit 22, nat_lit 1, nat_lit 32, nat_lit 0, nat_lit 0, [])) (.leaf (nat_lit 1, nat_lit 25, nat_lit 4, nat_lit 0, nat_lit 0, nat_lit 0, []))) (.branch (nat_lit 28) (.leaf (nat_lit 0, nat_lit 26, nat_lit 1, nat_lit 8, nat_lit 0, nat_lit 0, [])) (.branch (nat_lit 31) (.leaf (nat_lit 23, nat_lit 28, nat_lit 2, nat_lit 102, nat_lit 3082, nat_lit 114, [])) (.leaf (nat_lit 24, nat_lit 31, nat_lit 1, nat_lit 0, nat_lit 0, nat_lit 0, []))))))), [nat_lit 6072, nat_lit 1001, nat_lit 6070, nat_lit 6071])
set_option maxRecDepth 100000 in
def q_M173 : qM × List Nat := ((yX10_odds, cX10_odds, nat_lit 6, some .boolean, nat_lit 10, nat_lit 2, nat_lit 3, nat_lit 0, nat_lit 0, .branch (nat_lit 32) (.branch (nat_lit 15) (.branch (nat_lit 8) (.branch (nat_lit 2) (.branch (nat_lit 1) (.leaf (nat_lit 1, nat_lit 0, nat_lit 0, nat_lit 1, nat_lit 0, nat_lit 0, [])) (.leaf (nat_lit 0, nat_lit 1, nat_lit 0, nat_lit 0, nat_lit 0, nat_lit 0, []))) (.branch (nat_lit 5) (.leaf (nat_lit 0, nat_lit 2, nat_lit 2, nat_lit 9999, nat_lit 0, nat_lit 0, [])) (.leaf (nat_lit 23, nat_lit 5, nat_lit 0, nat_lit 109, nat_lit 3045, nat_lit 119, [])))) (.branch (nat_lit 12) (.branch (nat_lit 11) (.leaf (nat_lit 8, nat_lit 8, nat_lit 0, nat_lit 42, nat_lit 0, nat_lit 0, [])) (.leaf (nat_lit 1, nat_lit 11, nat_lit 0, nat_lit 2, nat_lit 0, nat_lit 0, []))) (.branch (nat_lit 13) (.leaf (nat_lit 0, nat_lit 12, nat_lit 0, nat_lit 1, nat_lit 0, nat_lit 0, [])) (.leaf (nat_lit 0, nat_lit 13, nat_lit 1, nat_lit 20, nat_lit 0, nat_lit 0, []))))) (.branch (nat_lit 23) (.branch (nat_lit 21) (.branch (nat_lit 18) (.leaf (nat_lit 23, nat_lit 15, nat_lit 0, nat_lit 109, nat_lit 3045, nat_lit 119, [])) (.leaf (nat_lit 8, nat_lit 18, nat_lit 0, nat_lit 42, nat_lit 0, nat_lit 0, []))) (.branch (nat_lit 22) (.leaf (nat_lit 1, nat_lit 21, nat_lit 0, nat_lit 3, nat_lit 0, nat_lit 0, [])) (.leaf (nat_lit 0, nat_lit 22, nat_lit 0, nat_lit 0, nat_lit 0, nat_lit 0, [])))) (.branch (nat_lit 28) (.branch (nat_lit 25) (.leaf (nat_lit 0, nat_lit 23, nat_lit 1, nat_lit 16, nat_lit 0, nat_lit 0, [])) (.leaf (nat_lit 23, nat_lit 25, nat_lit 0, nat_lit 109, nat_lit 3045, nat_lit 119, []))) (.branch (nat_lit 31) (.leaf (nat_lit 8, nat_lit 28, nat_lit 0, nat_lit 42, nat_lit 0, nat_lit 0, [])) (.leaf (nat_lit 1, nat_lit 31, nat_lit 0, nat_lit 1, nat_lit 0, nat_lit 0, [])))))) (.branch (nat_lit 44) (.branch (nat_lit 36) (.branch (nat_lit 34) (.branch (nat_lit 33) (.leaf (nat_lit 1, nat_lit 32, nat_lit 0, nat_lit 2, nat_lit 0, nat_lit 0, [])) (.leaf (nat_lit 4, nat_lit 33, nat_lit 0, nat_lit 0, nat_lit 0, nat_lit 0, []))) (.branch (nat_lit 35) (.leaf (nat_lit 0, nat_lit 34, nat_lit 0, nat_lit 1, nat_lit 0, nat_lit 0, [])) (.leaf (nat_lit 4, nat_lit 35, nat_lit 1, nat_lit 0, nat_lit 0, nat_lit 0, [])))) (.branch (nat_lit 42) (.branch (nat_lit 39) (.leaf (nat_lit 0, nat_lit 36, nat_lit 2, nat_lit 9999, nat_lit 0, nat_lit 0, [])) (.leaf (nat_lit 9, nat_lit 39, nat_lit 5, nat_lit 48, nat_lit 0, nat_lit 0, []))) (.branch (nat_lit 43) (.leaf (nat_lit 1, nat_lit 42, nat_lit 4, nat_lit 0, nat_lit 0, nat_lit 0, [])) (.leaf (nat_lit 0, nat_lit 43, nat_lit 0, nat_lit 5, nat_lit 0, nat_lit 0, []))))) (.branch (nat_lit 52) (.branch (nat_lit 48) (.branch (nat_lit 47) (.leaf (nat_lit 23, nat_lit 44, nat_lit 2, nat_lit 125, nat_lit 3048, nat_lit 116, [])) (.leaf (nat_lit 24, nat_lit 47, nat_lit 1, nat_lit 0, nat_lit 0, nat_lit 0, []))) (.branch (nat_lit 49) (.leaf (nat_lit 1, nat_lit 48, nat_lit 4, nat_lit 0, nat_lit 0, nat_lit 0, [])) (.leaf (nat_lit 23, nat_lit 49, nat_lit 2, nat_lit 397, nat_lit 6023, nat_lit 170, [])))) (.branch (nat_lit 56) (.branch (nat_lit 55) (.leaf (nat_lit 8, nat_lit 52, nat_lit 1, nat_lit 62, nat_lit 0, nat_lit 0, [])) (.leaf (nat_lit 1, nat_lit 55, nat_lit 4, nat_lit 0, nat_lit 0, nat_lit 0, []))) (.branch (nat_lit 58) (.leaf (nat_lit 0, nat_lit 56, nat_lit 1, nat_lit 8, nat_lit 0, nat_lit 0, [])) (.branch (nat_lit 61) (.leaf (nat_lit 23, nat_lit 58, nat_lit 2, nat_lit 125, nat_lit 3048, nat_lit 116, [])) (.leaf (nat_lit 24, nat_lit 61, nat_lit 1, nat_lit 0, nat_lit 0, nat_lit 0, [])))))))), [nat_lit 6076, nat_lit 1001, nat_lit 6074, nat_lit 6075])
set_option maxRecDepth 100000 in
def q_M175 : qM × List Nat := ((yX10_mark, cX10_mark, nat_lit 1, some .int, nat_lit 10, nat_lit 2, nat_lit 0, nat_lit 0, nat_lit 0, .branch (nat_lit 28) (.branch (nat_lit 16) (.branch (nat_lit 4) (.branch (nat_lit 1) (.leaf (nat_lit 1, nat_lit 0, nat_lit 4, nat_lit 0, nat_lit 0, nat_lit 0, [])) (.leaf (nat_lit 14, nat_lit 1, nat_lit 10, nat_lit 44, nat_lit 7, nat_lit 2214, []))) (.branch (nat_lit 5) (.leaf (nat_lit 0, nat_lit 4, nat_lit 0, nat_lit 3, nat_lit 0, nat_lit 0, [])) (.branch (nat_lit 15) (.leaf (nat_lit 9, nat_lit 5, nat_lit 2, nat_lit 15, nat_lit 0, nat_lit 0, [])) (.leaf (nat_lit 1, nat_lit 15, nat_lit 4, nat_lit 0, nat_lit 0, nat_lit 0, []))))) (.branch (nat_lit 23) (.branch (nat_lit 19) (.leaf (nat_lit 14, nat_lit 16, nat_lit 10, nat_lit 40, nat_lit 6, nat_lit 2213, [])) (.branch (nat_lit 20) (.leaf (nat_lit 1, nat_lit 19, nat_lit 4, nat_lit 0, nat_lit 0, nat_lit 0, [])) (.leaf (nat_lit 14, nat_lit 20, nat_lit 10, nat_lit 44, nat_lit 7, nat_lit 2214, [])))) (.branch (nat_lit 24) (.leaf (nat_lit 20, nat_lit 23, nat_lit 3, nat_lit 0, nat_lit 0, nat_lit 0, [])) (.branch (nat_lit 25) (.leaf (nat_lit 1, nat_lit 24, nat_lit 4, nat_lit 0, nat_lit 0, nat_lit 0, [])) (.leaf (nat_lit 14, nat_lit 25, nat_lit 10, nat_lit 36, nat_lit 5, nat_lit 2212, [])))))) (.branch (nat_lit 38) (.branch (nat_lit 33) (.branch (nat_lit 31) (.leaf (nat_lit 23, nat_lit 28, nat_lit 2, nat_lit 426, nat_lit 6085, nat_lit 34, [])) (.branch (nat_lit 32) (.leaf (nat_lit 1, nat_lit 31, nat_lit 4, nat_lit 0, nat_lit 0, nat_lit 0, [])) (.leaf (nat_lit 13, nat_lit 32, nat_lit 0, nat_lit 0, nat_lit 0, nat_lit 0, [])))) (.branch (nat_lit 36) (.leaf (nat_lit 14, nat_lit 33, nat_lit 10, nat_lit 44, nat_lit 7, nat_lit 2214, [])) (.branch (nat_lit 37) (.leaf (nat_lit 0, nat_lit 36, nat_lit 0, nat_lit 1, nat_lit 0, nat_lit 0, [])) (.leaf (nat_lit 4, nat_lit 37, nat_lit 0, nat_lit 0, nat_lit 0, nat_lit 0, []))))) (.branch (nat_lit 43) (.branch (nat_lit 41) (.leaf (nat_lit 15, nat_lit 38, nat_lit 10, nat_lit 44, nat_lit 7, nat_lit 2214, [nat_lit 0])) (.branch (nat_lit 42) (.leaf (nat_lit 1, nat_lit 41, nat_lit 4, nat_lit 0, nat_lit 0, nat_lit 0, [])) (.leaf (nat_lit 1, nat_lit 42, nat_lit 4, nat_lit 0, nat_lit 0, nat_lit 0, [])))) (.branch (nat_lit 46) (.leaf (nat_lit 14, nat_lit 43, nat_lit 10, nat_lit 44, nat_lit 7, nat_lit 2214, [])) (.branch (nat_lit 49) (.leaf (nat_lit 23, nat_lit 46, nat_lit 2, nat_lit 106, nat_lit 4070, nat_lit 113, [])) (.leaf (nat_lit 24, nat_lit 49, nat_lit 1, nat_lit 0, nat_lit 0, nat_lit 0, []))))))), [nat_lit 6084, nat_lit 1001, nat_lit 6082, nat_lit 6083])
set_option maxRecDepth 100000 in
def q_M176 : qM × List Nat := ((yX10_back, cX10_back, nat_lit 1, some .int, nat_lit 10, nat_lit 2, nat_lit 0, nat_lit 0, nat_lit 0, .branch (nat_lit 7) (.branch (nat_lit 1) (.leaf (nat_lit 1, nat_lit 0, nat_lit 4, nat_lit 0, nat_lit 0, nat_lit 0, [])) (.branch (nat_lit 4) (.leaf (nat_lit 14, nat_lit 1, nat_lit 10, nat_lit 44, nat_lit 7, nat_lit 2214, [])) (.leaf (nat_lit 8, nat_lit 4, nat_lit 4, nat_lit 14, nat_lit 0, nat_lit 0, [])))) (.branch (nat_lit 10) (.branch (nat_lit 8) (.leaf (nat_lit 1, nat_lit 7, nat_lit 4, nat_lit 0, nat_lit 0, nat_lit 0, [])) (.leaf (nat_lit 0, nat_lit 8, nat_lit 1, nat_lit 8, nat_lit 0, nat_lit 0, []))) (.branch (nat_lit 13) (.leaf (nat_lit 23, nat_lit 10, nat_lit 2, nat_lit 102, nat_lit 3082, nat_lit 114, [])) (.leaf (nat_lit 24, nat_lit 13, nat_lit 1, nat_lit 0, nat_lit 0, nat_lit 0, []))))), [nat_lit 6094, nat_lit 1001, nat_lit 6092, nat_lit 6093])
set_option maxRecDepth 100000 in
def q_M177 : qM × List Nat := ((yX11_init, cX11_init, nat_lit 2, none, nat_lit 11, nat_lit 1, nat_lit 0, nat_lit 22, nat_lit 14251, .branch (nat_lit 124) (.branch (nat_lit 60) (.branch (nat_lit 27) (.branch (nat_lit 11) (.branch (nat_lit 5) (.branch (nat_lit 1) (.leaf (nat_lit 1, nat_lit 0, nat_lit 4, nat_lit 0, nat_lit 0, nat_lit 0, [])) (.branch (nat_lit 4) (.leaf (nat_lit 25, nat_lit 1, nat_lit 0, nat_lit 1, nat_lit 0, nat_lit 6100, [nat_lit 1026, nat_lit 1027])) (.leaf (nat_lit 1, nat_lit 4, nat_lit 4, nat_lit 0, nat_lit 0, nat_lit 0, [])))) (.branch (nat_lit 9) (.branch (nat_lit 6) (.leaf (nat_lit 0, nat_lit 5, nat_lit 3, nat_lit 1, nat_lit 0, nat_lit 0, [])) (.leaf (nat_lit 15, nat_lit 6, nat_lit 11, nat_lit 7, nat_lit 3, nat_lit 6104, [nat_lit 2]))) (.branch (nat_lit 10) (.leaf (nat_lit 1, nat_lit 9, nat_lit 4, nat_lit 0, nat_lit 0, nat_lit 0, [])) (.leaf (nat_lit 0, nat_lit 10, nat_lit 0, nat_lit 4, nat_lit 0, nat_lit 0, []))))) (.branch (nat_lit 18) (.branch (nat_lit 16) (.branch (nat_lit 13) (.leaf (nat_lit 16, nat_lit 11, nat_lit 0, nat_lit 0, nat_lit 0, nat_lit 1178, [])) (.leaf (nat_lit 15, nat_lit 13, nat_lit 11, nat_lit 13, nat_lit 4, nat_lit 6105, [nat_lit 3]))) (.branch (nat_lit 17) (.leaf (nat_lit 1, nat_lit 16, nat_lit 4, nat_lit 0, nat_lit 0, nat_lit 0, [])) (.leaf (nat_lit 0, nat_lit 17, nat_lit 0, nat_lit 4, nat_lit 0, nat_lit 0, [])))) (.branch (nat_lit 23) (.branch (nat_lit 20) (.leaf (nat_lit 16, nat_lit 18, nat_lit 0, nat_lit 0, nat_lit 0, nat_lit 1178, [])) (.leaf (nat_lit 15, nat_lit 20, nat_lit 11, nat_lit 17, nat_lit 5, nat_lit 6106, [nat_lit 3]))) (.branch (nat_lit 24) (.leaf (nat_lit 1, nat_lit 23, nat_lit 4, nat_lit 0, nat_lit 0, nat_lit 0, [])) (.leaf (nat_lit 0, nat_lit 24, nat_lit 2, nat_lit 240, nat_lit 0, nat_lit 0, [])))))) (.branch (nat_lit 43) (.branch (nat_lit 36) (.branch (nat_lit 32) (.branch (nat_lit 29) (.leaf (nat_lit 16, nat_lit 27, nat_lit 3, nat_lit 0, nat_lit 0, nat_lit 2206, [])) (.leaf (nat_lit 15, nat_lit 29, nat_lit 11, nat_lit 20, nat_lit 6, nat_lit 6107, [nat_lit 3]))) (.branch (nat_lit 33) (.leaf (nat_lit 1, nat_lit 32, nat_lit 4, nat_lit 0, nat_lit 0, nat_lit 0, [])) (.leaf (nat_lit 0, nat_lit 33, nat_lit 2, nat_lit 900, nat_lit 0, nat_lit 0, [])))) (.branch (nat_lit 41) (.branch (nat_lit 38) (.leaf (nat_lit 16, nat_lit 36, nat_lit 1, nat_lit 0, nat_lit 0, nat_lit 1075, [])) (.leaf (nat_lit 15, nat_lit 38, nat_lit 11, nat_lit 24, nat_lit 7, nat_lit 6108, [nat_lit 3]))) (.branch (nat_lit 42) (.leaf (nat_lit 1, nat_lit 41, nat_lit 4, nat_lit 0, nat_lit 0, nat_lit 0, [])) (.leaf (nat_lit 0, nat_lit 42, nat_lit 0, nat_lit 1, nat_lit 1, nat_lit 0, []))))) (.branch (nat_lit 51) (.branch (nat_lit 47) (.branch (nat_lit 46) (.leaf (nat_lit 15, nat_lit 43, nat_lit 11, nat_lit 28, nat_lit 10, nat_lit 6111, [nat_lit 0])) (.leaf (nat_lit 1, nat_lit 46, nat_lit 4, nat_lit 0, nat_lit 0, nat_lit 0, []))) (.branch (nat_lit 48) (.leaf (nat_lit 0, nat_lit 47, nat_lit 0, nat_lit 1, nat_lit 1, nat_lit 0, [])) (.leaf (nat_lit 15, nat_lit 48, nat_lit 11, nat_lit 32, nat_lit 11, nat_lit 6112, [nat_lit 0])))) (.branch (nat_lit 55) (.branch (nat_lit 52) (.leaf (nat_lit 1, nat_lit 51, nat_lit 4, nat_lit 0, nat_lit 0, nat_lit 0, [])) (.leaf (nat_lit 0, nat_lit 52, nat_lit 2, nat_lit 1800, nat_lit 0, nat_lit 0, []))) (.branch (nat_lit 57) (.leaf (nat_lit 16, nat_lit 55, nat_lit 0, nat_lit 0, nat_lit 0, nat_lit 1178, [])) (.leaf (nat_lit 15, nat_lit 57, nat_lit 11, nat_lit 35, nat_lit 20, nat_lit 6121, [nat_lit 3]))))))) (.branch (nat_lit 90) (.branch (nat_lit 73) (.branch (nat_lit 66) (.branch (nat_lit 61) (.leaf (nat_lit 1, nat_lit 60, nat_lit 4, nat_lit 0, nat_lit 0, nat_lit 0, [])) (.branch (nat_lit 64) (.leaf (nat_lit 0, nat_lit 61, nat_lit 2, nat_lit 147, nat_lit 0, nat_lit 0, [])) (.leaf (nat_lit 16, nat_lit 64, nat_lit 0, nat_lit 0, nat_lit 0, nat_lit 1178, [])))) (.branch (nat_lit 70) (.branch (nat_lit 69) (.leaf (nat_lit 15, nat_lit 66, nat_lit 11, nat_lit 38, nat_lit 21, nat_lit 6122, [nat_lit 3])) (.leaf (nat_lit 1, nat_lit 69, nat_lit 4, nat_lit 0, nat_lit 0, nat_lit 0, []))) (.branch (nat_lit 71) (.leaf (nat_lit 0, nat_lit 70, nat_lit 0, nat_lit 4, nat_lit 0, nat_lit 0, [])) (.leaf (nat_lit 16, nat_lit 71, nat_lit 3, nat_lit 0, nat_lit 0, nat_lit 2206, []))))) (.branch (nat_lit 81) (.branch (nat_lit 77) (.branch (nat_lit 76) (.leaf (nat_lit 15, nat_lit 73, nat_lit 11, nat_lit 41, nat_lit 22, nat_lit 6123, [nat_lit 3])) (.leaf (nat_lit 1, nat_lit 76, nat_lit 4, nat_lit 0, nat_lit 0, nat_lit 0, []))) (.branch (nat_lit 79) (.leaf (nat_lit 0, nat_lit 77, nat_lit 1, nat_lit 96, nat_lit 0, nat_lit 0, [])) (.leaf (nat_lit 16, nat_lit 79, nat_lit 0, nat_lit 0, nat_lit 0, nat_lit 1178, [])))) (.branch (nat_lit 85) (.branch (nat_lit 84) (.leaf (nat_lit 15, nat_lit 81, nat_lit 11, nat_lit 44, nat_lit 24, nat_lit 6125, [nat_lit 3])) (.leaf (nat_lit 1, nat_lit 84, nat_lit 4, nat_lit 0, nat_lit 0, nat_lit 0, []))) (.branch (nat_lit 88) (.leaf (nat_lit 0, nat_lit 85, nat_lit 2, nat_lit 1344, nat_lit 0, nat_lit 0, [])) (.leaf (nat_lit 16, nat_lit 88, nat_lit 0, nat_lit 0, nat_lit 0, nat_lit 1178, [])))))) (.branch (nat_lit 107) (.branch (nat_lit 99) (.branch (nat_lit 94) (.branch (nat_lit 93) (.leaf (nat_lit 15, nat_lit 90, nat_lit 11, nat_lit 47, nat_lit 25, nat_lit 6126, [nat_lit 3])) (.leaf (nat_lit 1, nat_lit 93, nat_lit 4, nat_lit 0, nat_lit 0, nat_lit 0, []))) (.branch (nat_lit 97) (.leaf (nat_lit 0, nat_lit 94, nat_lit 2, nat_lit 1344, nat_lit 0, nat_lit 0, [])) (.leaf (nat_lit 16, nat_lit 97, nat_lit 0, nat_lit 0, nat_lit 0, nat_lit 1178, [])))) (.branch (nat_lit 103) (.branch (nat_lit 102) (.leaf (nat_lit 15, nat_lit 99, nat_lit 11, nat_lit 50, nat_lit 26, nat_lit 6127, [nat_lit 3])) (.leaf (nat_lit 1, nat_lit 102, nat_lit 4, nat_lit 0, nat_lit 0, nat_lit 0, []))) (.branch (nat_lit 105) (.leaf (nat_lit 0, nat_lit 103, nat_lit 1, nat_lit 96, nat_lit 0, nat_lit 0, [])) (.leaf (nat_lit 16, nat_lit 105, nat_lit 0, nat_lit 0, nat_lit 0, nat_lit 1178, []))))) (.branch (nat_lit 116) (.branch (nat_lit 111) (.branch (nat_lit 110) (.leaf (nat_lit 15, nat_lit 107, nat_lit 11, nat_lit 53, nat_lit 27, nat_lit 6128, [nat_lit 3])) (.leaf (nat_lit 1, nat_lit 110, nat_lit 4, nat_lit 0, nat_lit 0, nat_lit 0, []))) (.branch (nat_lit 114) (.leaf (nat_lit 0, nat_lit 111, nat_lit 2, nat_lit 1344, nat_lit 0, nat_lit 0, [])) (.leaf (nat_lit 16, nat_lit 114, nat_lit 3, nat_lit 0, nat_lit 0, nat_lit 2206, [])))) (.branch (nat_lit 120) (.branch (nat_lit 119) (.leaf (nat_lit 15, nat_lit 116, nat_lit 11, nat_lit 56, nat_lit 28, nat_lit 6129, [nat_lit 3])) (.leaf (nat_lit 1, nat_lit 119, nat_lit 4, nat_lit 0, nat_lit 0, nat_lit 0, []))) (.branch (nat_lit 122) (.leaf (nat_lit 0, nat_lit 120, nat_lit 1, nat_lit 96, nat_lit 0, nat_lit 0, [])) (.leaf (nat_lit 16, nat_lit 122, nat_lit 0, nat_lit 0, nat_lit 0, nat_lit 1178, [])))))))) (.branch (nat_lit 188) (.branch (nat_lit 154) (.branch (nat_lit 137) (.branch (nat_lit 130) (.branch (nat_lit 127) (.leaf (nat_lit 15, nat_lit 124, nat_lit 11, nat_lit 59, nat_lit 30, nat_lit 6131, [nat_lit 3])) (.branch (nat_lit 128) (.leaf (nat_lit 1, nat_lit 127, nat_lit 4, nat_lit 0, nat_lit 0, nat_lit 0, [])) (.leaf (nat_lit 0, nat_lit 128, nat_lit 1, nat_lit 96, nat_lit 0, nat_lit 0, [])))) (.branch (nat_lit 135) (.branch (nat_lit 132) (.leaf (nat_lit 16, nat_lit 130, nat_lit 0, nat_lit 0, nat_lit 0, nat_lit 1178, [])) (.leaf (nat_lit 15, nat_lit 132, nat_lit 11, nat_lit 62, nat_lit 31, nat_lit 6132, [nat_lit 3]))) (.branch (nat_lit 136) (.leaf (nat_lit 1, nat_lit 135, nat_lit 4, nat_lit 0, nat_lit 0, nat_lit 0, [])) (.leaf (nat_lit 0, nat_lit 136, nat_lit 0, nat_lit 1, nat_lit 1, nat_lit 0, []))))) (.branch (nat_lit 145) (.branch (nat_lit 141) (.branch (nat_lit 140) (.leaf (nat_lit 15, nat_lit 137, nat_lit 11, nat_lit 65, nat_lit 33, nat_lit 6134, [nat_lit 0])) (.leaf (nat_lit 1, nat_lit 140, nat_lit 4, nat_lit 0, nat_lit 0, nat_lit 0, []))) (.branch (nat_lit 143) (.leaf (nat_lit 0, nat_lit 141, nat_lit 1, nat_lit 28, nat_lit 0, nat_lit 0, [])) (.leaf (nat_lit 16, nat_lit 143, nat_lit 3, nat_lit 0, nat_lit 0, nat_lit 2206, [])))) (.branch (nat_lit 149) (.branch (nat_lit 148) (.leaf (nat_lit 15, nat_lit 145, nat_lit 11, nat_lit 68, nat_lit 35, nat_lit 6136, [nat_lit 3])) (.leaf (nat_lit 1, nat_lit 148, nat_lit 4, nat_lit 0, nat_lit 0, nat_lit 0, []))) (.branch (nat_lit 152) (.leaf (nat_lit 0, nat_lit 149, nat_lit 2, nat_lit 1344, nat_lit 0, nat_lit 0, [])) (.leaf (nat_lit 16, nat_lit 152, nat_lit 3, nat_lit 0, nat_lit 0, nat_lit 2206, [])))))) (.branch (nat_lit 172) (.branch (nat_lit 163) (.branch (nat_lit 158) (.branch (nat_lit 157) (.leaf (nat_lit 15, nat_lit 154, nat_lit 11, nat_lit 71, nat_lit 36, nat_lit 6137, [nat_lit 3])) (.leaf (nat_lit 1, nat_lit 157, nat_lit 4, nat_lit 0, nat_lit 0, nat_lit 0, []))) (.branch (nat_lit 161) (.leaf (nat_lit 0, nat_lit 158, nat_lit 2, nat_lit 1152, nat_lit 0, nat_lit 0, [])) (.leaf (nat_lit 16, nat_lit 161, nat_lit 2, nat_lit 0, nat_lit 0, nat_lit 7021, [])))) (.branch (nat_lit 167) (.branch (nat_lit 166) (.leaf (nat_lit 15, nat_lit 163, nat_lit 11, nat_lit 74, nat_lit 37, nat_lit 6138, [nat_lit 3])) (.leaf (nat_lit 1, nat_lit 166, nat_lit 4, nat_lit 0, nat_lit 0, nat_lit 0, []))) (.branch (nat_lit 170) (.leaf (nat_lit 0, nat_lit 167, nat_lit 2, nat_lit 4096, nat_lit 0, nat_lit 0, [])) (.leaf (nat_lit 16, nat_lit 170, nat_lit 0, nat_lit 0, nat_lit 0, nat_lit 1178, []))))) (.branch (nat_lit 180) (.branch (nat_lit 176) (.branch (nat_lit 175) (.leaf (nat_lit 15, nat_lit 172, nat_lit 11, nat_lit 78, nat_lit 38, nat_lit 6139, [nat_lit 3])) (.leaf (nat_lit 1, nat_lit 175, nat_lit 4, nat_lit 0, nat_lit 0, nat_lit 0, []))) (.branch (nat_lit 178) (.leaf (nat_lit 0, nat_lit 176, nat_lit 1, nat_lit 96, nat_lit 0, nat_lit 0, [])) (.leaf (nat_lit 16, nat_lit 178, nat_lit 0, nat_lit 0, nat_lit 0, nat_lit 1178, [])))) (.branch (nat_lit 184) (.branch (nat_lit 183) (.leaf (nat_lit 15, nat_lit 180, nat_lit 11, nat_lit 81, nat_lit 39, nat_lit 6140, [nat_lit 3])) (.leaf (nat_lit 1, nat_lit 183, nat_lit 4, nat_lit 0, nat_lit 0, nat_lit 0, []))) (.branch (nat_lit 186) (.leaf (nat_lit 0, nat_lit 184, nat_lit 1, nat_lit 8, nat_lit 0, nat_lit 0, [])) (.leaf (nat_lit 16, nat_lit 186, nat_lit 0, nat_lit 0, nat_lit 0, nat_lit 1178, []))))))) (.branch (nat_lit 217) (.branch (nat_lit 203) (.branch (nat_lit 196) (.branch (nat_lit 192) (.branch (nat_lit 191) (.leaf (nat_lit 15, nat_lit 188, nat_lit 11, nat_lit 84, nat_lit 41, nat_lit 6142, [nat_lit 3])) (.leaf (nat_lit 1, nat_lit 191, nat_lit 4, nat_lit 0, nat_lit 0, nat_lit 0, []))) (.branch (nat_lit 194) (.leaf (nat_lit 0, nat_lit 192, nat_lit 1, nat_lit 8, nat_lit 0, nat_lit 0, [])) (.leaf (nat_lit 16, nat_lit 194, nat_lit 0, nat_lit 0, nat_lit 0, nat_lit 1178, [])))) (.branch (nat_lit 200) (.branch (nat_lit 199) (.leaf (nat_lit 15, nat_lit 196, nat_lit 11, nat_lit 87, nat_lit 42, nat_lit 6143, [nat_lit 3])) (.leaf (nat_lit 1, nat_lit 199, nat_lit 4, nat_lit 0, nat_lit 0, nat_lit 0, []))) (.branch (nat_lit 201) (.leaf (nat_lit 0, nat_lit 200, nat_lit 0, nat_lit 4, nat_lit 0, nat_lit 0, [])) (.leaf (nat_lit 16, nat_lit 201, nat_lit 0, nat_lit 0, nat_lit 0, nat_lit 1178, []))))) (.branch (nat_lit 209) (.branch (nat_lit 207) (.branch (nat_lit 206) (.leaf (nat_lit 15, nat_lit 203, nat_lit 11, nat_lit 90, nat_lit 52, nat_lit 6153, [nat_lit 3])) (.leaf (nat_lit 0, nat_lit 206, nat_lit 0, nat_lit 0, nat_lit 0, nat_lit 0, []))) (.branch (nat_lit 208) (.leaf (nat_lit 2, nat_lit 207, nat_lit 0, nat_lit 1, nat_lit 0, nat_lit 0, [])) (.leaf (nat_lit 1, nat_lit 208, nat_lit 0, nat_lit 1, nat_lit 0, nat_lit 0, [])))) (.branch (nat_lit 213) (.branch (nat_lit 210) (.leaf (nat_lit 0, nat_lit 209, nat_lit 0, nat_lit 4, nat_lit 0, nat_lit 0, [])) (.leaf (nat_lit 9, nat_lit 210, nat_lit 3, nat_lit 226, nat_lit 0, nat_lit 0, []))) (.branch (nat_lit 214) (.leaf (nat_lit 1, nat_lit 213, nat_lit 4, nat_lit 0, nat_lit 0, nat_lit 0, [])) (.leaf (nat_lit 14, nat_lit 214, nat_lit 11, nat_lit 17, nat_lit 5, nat_lit 6106, [])))))) (.branch (nat_lit 231) (.branch (nat_lit 223) (.branch (nat_lit 219) (.branch (nat_lit 218) (.leaf (nat_lit 1, nat_lit 217, nat_lit 0, nat_lit 1, nat_lit 0, nat_lit 0, [])) (.leaf (nat_lit 0, nat_lit 218, nat_lit 0, nat_lit 1, nat_lit 1, nat_lit 0, []))) (.branch (nat_lit 220) (.leaf (nat_lit 21, nat_lit 219, nat_lit 0, nat_lit 0, nat_lit 0, nat_lit 0, [])) (.leaf (nat_lit 3, nat_lit 220, nat_lit 0, nat_lit 1, nat_lit 1, nat_lit 0, [])))) (.branch (nat_lit 227) (.branch (nat_lit 226) (.leaf (nat_lit 10, nat_lit 223, nat_lit 0, nat_lit 208, nat_lit 0, nat_lit 0, [])) (.leaf (nat_lit 1, nat_lit 226, nat_lit 4, nat_lit 0, nat_lit 0, nat_lit 0, []))) (.branch (nat_lit 230) (.leaf (nat_lit 14, nat_lit 227, nat_lit 11, nat_lit 35, nat_lit 20, nat_lit 6121, [])) (.leaf (nat_lit 0, nat_lit 230, nat_lit 0, nat_lit 0, nat_lit 0, nat_lit 0, []))))) (.branch (nat_lit 238) (.branch (nat_lit 234) (.branch (nat_lit 233) (.leaf (nat_lit 0, nat_lit 231, nat_lit 1, nat_lit 7, nat_lit 0, nat_lit 0, [])) (.leaf (nat_lit 21, nat_lit 233, nat_lit 0, nat_lit 0, nat_lit 0, nat_lit 0, []))) (.branch (nat_lit 235) (.leaf (nat_lit 1, nat_lit 234, nat_lit 4, nat_lit 0, nat_lit 0, nat_lit 0, [])) (.leaf (nat_lit 14, nat_lit 235, nat_lit 11, nat_lit 35, nat_lit 20, nat_lit 6121, [])))) (.branch (nat_lit 240) (.branch (nat_lit 239) (.leaf (nat_lit 0, nat_lit 238, nat_lit 0, nat_lit 1, nat_lit 0, nat_lit 0, [])) (.leaf (nat_lit 0, nat_lit 239, nat_lit 0, nat_lit 1, nat_lit 0, nat_lit 0, []))) (.branch (nat_lit 241) (.leaf (nat_lit 21, nat_lit 240, nat_lit 0, nat_lit 0, nat_lit 0, nat_lit 0, [])) (.leaf (nat_lit 24, nat_lit 241, nat_lit 0, nat_lit 0, nat_lit 0, nat_lit 0, []))))))))), [nat_lit 6099, nat_lit 1013, nat_lit 6098, nat_lit 0])
set_option maxRecDepth 100000 in
def q_M178 : qM × List Nat := ((yX11_status, cX11_status, nat_lit 1, some .int, nat_lit 11, nat_lit 2, nat_lit 0, nat_lit 0, nat_lit 0, .branch (nat_lit 5) (.branch (nat_lit 1) (.leaf (nat_lit 1, nat_lit 0, nat_lit 4, nat_lit 0, nat_lit 0, nat_lit 0, [])) (.branch (nat_lit 2) (.leaf (nat_lit 0, nat_lit 1, nat_lit 0, nat_lit 0, nat_lit 0, nat_lit 0, [])) (.leaf (nat_lit 15, nat_lit 2, nat_lit 11, nat_lit 93, nat_lit 1, nat_lit 6102, [nat_lit 0])))) (.branch (nat_lit 6) (.leaf (nat_lit 1, nat_lit 5, nat_lit 4, nat_lit 0, nat_lit 0, nat_lit 0, [])) (.branch (nat_lit 9) (.leaf (nat_lit 14, nat_lit 6, nat_lit 11, nat_lit 96, nat_lit 0, nat_lit 6101, [])) (.leaf (nat_lit 24, nat_lit 9, nat_lit 1, nat_lit 0, nat_lit 0, nat_lit 0, []))))), [nat_lit 7025, nat_lit 1013, nat_lit 7023, nat_lit 7024])
set_option maxRecDepth 100000 in
def q_M179 : qM × List Nat := ((yX11_top, cX11_top, nat_lit 1, some .long, nat_lit 11, nat_lit 2, nat_lit 0, nat_lit 0, nat_lit 0, .branch (nat_lit 5) (.branch (nat_lit 1) (.leaf (nat_lit 1, nat_lit 0, nat_lit 4, nat_lit 0, nat_lit 0, nat_lit 0, [])) (.branch (nat_lit 2) (.leaf (nat_lit 0, nat_lit 1, nat_lit 0, nat_lit 0, nat_lit 0, nat_lit 0, [])) (.leaf (nat_lit 15, nat_lit 2, nat_lit 11, nat_lit 93, nat_lit 1, nat_lit 6102, [nat_lit 0])))) (.branch (nat_lit 6) (.leaf (nat_lit 1, nat_lit 5, nat_lit 4, nat_lit 0, nat_lit 0, nat_lit 0, [])) (.branch (nat_lit 9) (.leaf (nat_lit 14, nat_lit 6, nat_lit 11, nat_lit 99, nat_lit 2, nat_lit 6103, [])) (.leaf (nat_lit 24, nat_lit 9, nat_lit 2, nat_lit 0, nat_lit 0, nat_lit 0, []))))), [nat_lit 7029, nat_lit 1013, nat_lit 7027, nat_lit 7028])
set_option maxRecDepth 100000 in
def q_M180 : qM × List Nat := ((yX11_bottom, cX11_bottom, nat_lit 1, some .long, nat_lit 11, nat_lit 2, nat_lit 0, nat_lit 0, nat_lit 0, .branch (nat_lit 5) (.branch (nat_lit 1) (.leaf (nat_lit 1, nat_lit 0, nat_lit 4, nat_lit 0, nat_lit 0, nat_lit 0, [])) (.branch (nat_lit 2) (.leaf (nat_lit 0, nat_lit 1, nat_lit 0, nat_lit 0, nat_lit 0, nat_lit 0, [])) (.leaf (nat_lit 15, nat_lit 2, nat_lit 11, nat_lit 93, nat_lit 1, nat_lit 6102, [nat_lit 0])))) (.branch (nat_lit 6) (.leaf (nat_lit 1, nat_lit 5, nat_lit 4, nat_lit 0, nat_lit 0, nat_lit 0, [])) (.branch (nat_lit 9) (.leaf (nat_lit 14, nat_lit 6, nat_lit 11, nat_lit 7, nat_lit 3, nat_lit 6104, [])) (.leaf (nat_lit 24, nat_lit 9, nat_lit 2, nat_lit 0, nat_lit 0, nat_lit 0, []))))), [nat_lit 7033, nat_lit 1013, nat_lit 7031, nat_lit 7032])
set_option maxRecDepth 100000 in
def q_M181 : qM × List Nat := ((yX11_refuse, cX11_refuse, nat_lit 2, some .int, nat_lit 11, nat_lit 2, nat_lit 1, nat_lit 0, nat_lit 0, .branch (nat_lit 2) (.branch (nat_lit 1) (.leaf (nat_lit 1, nat_lit 0, nat_lit 4, nat_lit 0, nat_lit 0, nat_lit 0, [])) (.leaf (nat_lit 1, nat_lit 1, nat_lit 0, nat_lit 1, nat_lit 0, nat_lit 0, []))) (.branch (nat_lit 5) (.leaf (nat_lit 15, nat_lit 2, nat_lit 11, nat_lit 96, nat_lit 0, nat_lit 6101, [nat_lit 0])) (.branch (nat_lit 6) (.leaf (nat_lit 0, nat_lit 5, nat_lit 0, nat_lit 1, nat_lit 1, nat_lit 0, [])) (.leaf (nat_lit 24, nat_lit 6, nat_lit 1, nat_lit 0, nat_lit 0, nat_lit 0, []))))), [nat_lit 8007, nat_lit 1013, nat_lit 8006, nat_lit 86])
set_option maxRecDepth 100000 in
def q_M182 : qM × List Nat := ((yX11_no, cX11_no, nat_lit 2, some .boolean, nat_lit 11, nat_lit 2, nat_lit 1, nat_lit 0, nat_lit 0, .branch (nat_lit 2) (.branch (nat_lit 1) (.leaf (nat_lit 1, nat_lit 0, nat_lit 4, nat_lit 0, nat_lit 0, nat_lit 0, [])) (.leaf (nat_lit 1, nat_lit 1, nat_lit 0, nat_lit 1, nat_lit 0, nat_lit 0, []))) (.branch (nat_lit 5) (.leaf (nat_lit 15, nat_lit 2, nat_lit 11, nat_lit 96, nat_lit 0, nat_lit 6101, [nat_lit 0])) (.branch (nat_lit 6) (.leaf (nat_lit 0, nat_lit 5, nat_lit 0, nat_lit 0, nat_lit 0, nat_lit 0, [])) (.leaf (nat_lit 24, nat_lit 6, nat_lit 1, nat_lit 0, nat_lit 0, nat_lit 0, []))))), [nat_lit 7041, nat_lit 1013, nat_lit 7040, nat_lit 47])
set_option maxRecDepth 100000 in
def q_M183 : qM × List Nat := ((yX11_isIn, cX11_isIn, nat_lit 6, some .boolean, nat_lit 11, nat_lit 0, nat_lit 3, nat_lit 0, nat_lit 0, .branch (nat_lit 9) (.branch (nat_lit 3) (.branch (nat_lit 1) (.leaf (nat_lit 1, nat_lit 0, nat_lit 2, nat_lit 0, nat_lit 0, nat_lit 0, [])) (.branch (nat_lit 2) (.leaf (nat_lit 1, nat_lit 1, nat_lit 2, nat_lit 2, nat_lit 0, nat_lit 0, [])) (.leaf (nat_lit 7, nat_lit 2, nat_lit 0, nat_lit 0, nat_lit 0, nat_lit 0, [])))) (.branch (nat_lit 6) (.leaf (nat_lit 8, nat_lit 3, nat_lit 2, nat_lit 17, nat_lit 0, nat_lit 0, [])) (.branch (nat_lit 7) (.leaf (nat_lit 1, nat_lit 6, nat_lit 2, nat_lit 0, nat_lit 0, nat_lit 0, [])) (.leaf (nat_lit 1, nat_lit 7, nat_lit 3, nat_lit 4, nat_lit 0, nat_lit 0, []))))) (.branch (nat_lit 14) (.branch (nat_lit 10) (.leaf (nat_lit 7, nat_lit 9, nat_lit 0, nat_lit 0, nat_lit 0, nat_lit 0, [])) (.branch (nat_lit 13) (.leaf (nat_lit 8, nat_lit 10, nat_lit 4, nat_lit 17, nat_lit 0, nat_lit 0, [])) (.leaf (nat_lit 0, nat_lit 13, nat_lit 0, nat_lit 1, nat_lit 0, nat_lit 0, [])))) (.branch (nat_lit 17) (.leaf (nat_lit 10, nat_lit 14, nat_lit 0, nat_lit 18, nat_lit 0, nat_lit 0, [])) (.branch (nat_lit 18) (.leaf (nat_lit 0, nat_lit 17, nat_lit 0, nat_lit 0, nat_lit 0, nat_lit 0, [])) (.leaf (nat_lit 24, nat_lit 18, nat_lit 1, nat_lit 0, nat_lit 0, nat_lit 0, [])))))), [nat_lit 7135, nat_lit 1013, nat_lit 7134, nat_lit 0])
set_option maxRecDepth 100000 in
def q_M186 : qM × List Nat := ((yX11_tray, cX11_tray, nat_lit 5, some .boolean, nat_lit 11, nat_lit 2, nat_lit 3, nat_lit 0, nat_lit 0, .branch (nat_lit 51) (.branch (nat_lit 25) (.branch (nat_lit 11) (.branch (nat_lit 5) (.branch (nat_lit 1) (.leaf (nat_lit 1, nat_lit 0, nat_lit 4, nat_lit 0, nat_lit 0, nat_lit 0, [])) (.branch (nat_lit 2) (.leaf (nat_lit 0, nat_lit 1, nat_lit 0, nat_lit 0, nat_lit 0, nat_lit 0, [])) (.leaf (nat_lit 15, nat_lit 2, nat_lit 11, nat_lit 93, nat_lit 1, nat_lit 6102, [nat_lit 0])))) (.branch (nat_lit 7) (.branch (nat_lit 6) (.leaf (nat_lit 1, nat_lit 5, nat_lit 4, nat_lit 0, nat_lit 0, nat_lit 0, [])) (.leaf (nat_lit 0, nat_lit 6, nat_lit 0, nat_lit 0, nat_lit 0, nat_lit 0, []))) (.branch (nat_lit 10) (.leaf (nat_lit 15, nat_lit 7, nat_lit 11, nat_lit 96, nat_lit 0, nat_lit 6101, [nat_lit 0])) (.leaf (nat_lit 1, nat_lit 10, nat_lit 0, nat_lit 1, nat_lit 0, nat_lit 0, []))))) (.branch (nat_lit 19) (.branch (nat_lit 15) (.branch (nat_lit 14) (.leaf (nat_lit 8, nat_lit 11, nat_lit 2, nat_lit 28, nat_lit 0, nat_lit 0, [])) (.leaf (nat_lit 1, nat_lit 14, nat_lit 0, nat_lit 1, nat_lit 0, nat_lit 0, []))) (.branch (nat_lit 16) (.leaf (nat_lit 0, nat_lit 15, nat_lit 0, nat_lit 4, nat_lit 0, nat_lit 0, [])) (.leaf (nat_lit 9, nat_lit 16, nat_lit 3, nat_lit 28, nat_lit 0, nat_lit 0, [])))) (.branch (nat_lit 23) (.branch (nat_lit 20) (.leaf (nat_lit 1, nat_lit 19, nat_lit 0, nat_lit 2, nat_lit 0, nat_lit 0, [])) (.leaf (nat_lit 8, nat_lit 20, nat_lit 2, nat_lit 28, nat_lit 0, nat_lit 0, []))) (.branch (nat_lit 24) (.leaf (nat_lit 1, nat_lit 23, nat_lit 0, nat_lit 2, nat_lit 0, nat_lit 0, [])) (.leaf (nat_lit 0, nat_lit 24, nat_lit 0, nat_lit 3, nat_lit 0, nat_lit 0, [])))))) (.branch (nat_lit 37) (.branch (nat_lit 30) (.branch (nat_lit 28) (.leaf (nat_lit 9, nat_lit 25, nat_lit 5, nat_lit 34, nat_lit 0, nat_lit 0, [])) (.branch (nat_lit 29) (.leaf (nat_lit 1, nat_lit 28, nat_lit 4, nat_lit 0, nat_lit 0, nat_lit 0, [])) (.leaf (nat_lit 0, nat_lit 29, nat_lit 0, nat_lit 1, nat_lit 0, nat_lit 0, [])))) (.branch (nat_lit 34) (.branch (nat_lit 33) (.leaf (nat_lit 23, nat_lit 30, nat_lit 2, nat_lit 108, nat_lit 7038, nat_lit 182, [])) (.leaf (nat_lit 24, nat_lit 33, nat_lit 1, nat_lit 0, nat_lit 0, nat_lit 0, []))) (.branch (nat_lit 35) (.leaf (nat_lit 1, nat_lit 34, nat_lit 0, nat_lit 3, nat_lit 0, nat_lit 0, [])) (.leaf (nat_lit 0, nat_lit 35, nat_lit 1, nat_lit 60, nat_lit 0, nat_lit 0, []))))) (.branch (nat_lit 45) (.branch (nat_lit 41) (.branch (nat_lit 40) (.leaf (nat_lit 9, nat_lit 37, nat_lit 5, nat_lit 46, nat_lit 0, nat_lit 0, [])) (.leaf (nat_lit 1, nat_lit 40, nat_lit 4, nat_lit 0, nat_lit 0, nat_lit 0, []))) (.branch (nat_lit 42) (.leaf (nat_lit 0, nat_lit 41, nat_lit 0, nat_lit 5, nat_lit 0, nat_lit 0, [])) (.leaf (nat_lit 23, nat_lit 42, nat_lit 2, nat_lit 108, nat_lit 7038, nat_lit 182, [])))) (.branch (nat_lit 47) (.branch (nat_lit 46) (.leaf (nat_lit 24, nat_lit 45, nat_lit 1, nat_lit 0, nat_lit 0, nat_lit 0, [])) (.leaf (nat_lit 1, nat_lit 46, nat_lit 0, nat_lit 3, nat_lit 0, nat_lit 0, []))) (.branch (nat_lit 50) (.leaf (nat_lit 8, nat_lit 47, nat_lit 3, nat_lit 57, nat_lit 0, nat_lit 0, [])) (.leaf (nat_lit 1, nat_lit 50, nat_lit 4, nat_lit 0, nat_lit 0, nat_lit 0, []))))))) (.branch (nat_lit 74) (.branch (nat_lit 63) (.branch (nat_lit 57) (.branch (nat_lit 53) (.leaf (nat_lit 0, nat_lit 51, nat_lit 1, nat_lit 6, nat_lit 0, nat_lit 0, [])) (.branch (nat_lit 56) (.leaf (nat_lit 23, nat_lit 53, nat_lit 2, nat_lit 108, nat_lit 7038, nat_lit 182, [])) (.leaf (nat_lit 24, nat_lit 56, nat_lit 1, nat_lit 0, nat_lit 0, nat_lit 0, [])))) (.branch (nat_lit 61) (.branch (nat_lit 58) (.leaf (nat_lit 1, nat_lit 57, nat_lit 4, nat_lit 0, nat_lit 0, nat_lit 0, [])) (.leaf (nat_lit 14, nat_lit 58, nat_lit 11, nat_lit 13, nat_lit 4, nat_lit 6105, []))) (.branch (nat_lit 62) (.leaf (nat_lit 1, nat_lit 61, nat_lit 0, nat_lit 1, nat_lit 0, nat_lit 0, [])) (.leaf (nat_lit 1, nat_lit 62, nat_lit 0, nat_lit 2, nat_lit 0, nat_lit 0, []))))) (.branch (nat_lit 69) (.branch (nat_lit 65) (.branch (nat_lit 64) (.leaf (nat_lit 21, nat_lit 63, nat_lit 0, nat_lit 0, nat_lit 0, nat_lit 0, [])) (.leaf (nat_lit 1, nat_lit 64, nat_lit 4, nat_lit 0, nat_lit 0, nat_lit 0, []))) (.branch (nat_lit 68) (.leaf (nat_lit 14, nat_lit 65, nat_lit 11, nat_lit 17, nat_lit 5, nat_lit 6106, [])) (.leaf (nat_lit 1, nat_lit 68, nat_lit 0, nat_lit 1, nat_lit 0, nat_lit 0, [])))) (.branch (nat_lit 71) (.branch (nat_lit 70) (.leaf (nat_lit 1, nat_lit 69, nat_lit 0, nat_lit 3, nat_lit 0, nat_lit 0, [])) (.leaf (nat_lit 21, nat_lit 70, nat_lit 0, nat_lit 0, nat_lit 0, nat_lit 0, []))) (.branch (nat_lit 72) (.leaf (nat_lit 0, nat_lit 71, nat_lit 0, nat_lit 0, nat_lit 0, nat_lit 0, [])) (.leaf (nat_lit 2, nat_lit 72, nat_lit 1, nat_lit 4, nat_lit 0, nat_lit 0, [])))))) (.branch (nat_lit 88) (.branch (nat_lit 81) (.branch (nat_lit 77) (.branch (nat_lit 76) (.leaf (nat_lit 1, nat_lit 74, nat_lit 1, nat_lit 4, nat_lit 0, nat_lit 0, [])) (.leaf (nat_lit 1, nat_lit 76, nat_lit 0, nat_lit 3, nat_lit 0, nat_lit 0, []))) (.branch (nat_lit 80) (.leaf (nat_lit 9, nat_lit 77, nat_lit 3, nat_lit 99, nat_lit 0, nat_lit 0, [])) (.leaf (nat_lit 1, nat_lit 80, nat_lit 4, nat_lit 0, nat_lit 0, nat_lit 0, [])))) (.branch (nat_lit 86) (.branch (nat_lit 84) (.leaf (nat_lit 14, nat_lit 81, nat_lit 11, nat_lit 20, nat_lit 6, nat_lit 6107, [])) (.leaf (nat_lit 0, nat_lit 84, nat_lit 1, nat_lit 60, nat_lit 0, nat_lit 0, []))) (.branch (nat_lit 87) (.leaf (nat_lit 1, nat_lit 86, nat_lit 0, nat_lit 1, nat_lit 0, nat_lit 0, [])) (.leaf (nat_lit 4, nat_lit 87, nat_lit 2, nat_lit 0, nat_lit 0, nat_lit 0, []))))) (.branch (nat_lit 93) (.branch (nat_lit 91) (.branch (nat_lit 90) (.leaf (nat_lit 1, nat_lit 88, nat_lit 1, nat_lit 4, nat_lit 0, nat_lit 0, [])) (.leaf (nat_lit 4, nat_lit 90, nat_lit 0, nat_lit 0, nat_lit 0, nat_lit 0, []))) (.branch (nat_lit 92) (.leaf (nat_lit 0, nat_lit 91, nat_lit 3, nat_lit 0, nat_lit 0, nat_lit 0, [])) (.leaf (nat_lit 21, nat_lit 92, nat_lit 2, nat_lit 0, nat_lit 0, nat_lit 0, [])))) (.branch (nat_lit 99) (.branch (nat_lit 96) (.leaf (nat_lit 3, nat_lit 93, nat_lit 0, nat_lit 4, nat_lit 1, nat_lit 0, [])) (.leaf (nat_lit 10, nat_lit 96, nat_lit 0, nat_lit 74, nat_lit 0, nat_lit 0, []))) (.branch (nat_lit 100) (.leaf (nat_lit 0, nat_lit 99, nat_lit 0, nat_lit 1, nat_lit 0, nat_lit 0, [])) (.leaf (nat_lit 24, nat_lit 100, nat_lit 1, nat_lit 0, nat_lit 0, nat_lit 0, [])))))))), [nat_lit 7037, nat_lit 1013, nat_lit 7035, nat_lit 7036])
set_option maxRecDepth 100000 in
def q_M187 : qM × List Nat := ((yX11_trayed, cX11_trayed, nat_lit 2, some .int, nat_lit 11, nat_lit 2, nat_lit 1, nat_lit 0, nat_lit 0, .branch (nat_lit 13) (.branch (nat_lit 5) (.branch (nat_lit 1) (.leaf (nat_lit 1, nat_lit 0, nat_lit 0, nat_lit 1, nat_lit 0, nat_lit 0, [])) (.branch (nat_lit 4) (.leaf (nat_lit 8, nat_lit 1, nat_lit 2, nat_lit 9, nat_lit 0, nat_lit 0, [])) (.leaf (nat_lit 1, nat_lit 4, nat_lit 0, nat_lit 1, nat_lit 0, nat_lit 0, [])))) (.branch (nat_lit 9) (.branch (nat_lit 6) (.leaf (nat_lit 0, nat_lit 5, nat_lit 0, nat_lit 4, nat_lit 0, nat_lit 0, [])) (.leaf (nat_lit 9, nat_lit 6, nat_lit 2, nat_lit 13, nat_lit 0, nat_lit 0, []))) (.branch (nat_lit 10) (.leaf (nat_lit 0, nat_lit 9, nat_lit 0, nat_lit 1, nat_lit 0, nat_lit 0, [])) (.leaf (nat_lit 10, nat_lit 10, nat_lit 0, nat_lit 27, nat_lit 0, nat_lit 0, []))))) (.branch (nat_lit 19) (.branch (nat_lit 17) (.branch (nat_lit 14) (.leaf (nat_lit 1, nat_lit 13, nat_lit 4, nat_lit 0, nat_lit 0, nat_lit 0, [])) (.leaf (nat_lit 14, nat_lit 14, nat_lit 11, nat_lit 17, nat_lit 5, nat_lit 6106, []))) (.branch (nat_lit 18) (.leaf (nat_lit 1, nat_lit 17, nat_lit 0, nat_lit 1, nat_lit 0, nat_lit 0, [])) (.leaf (nat_lit 20, nat_lit 18, nat_lit 0, nat_lit 0, nat_lit 0, nat_lit 0, [])))) (.branch (nat_lit 23) (.branch (nat_lit 22) (.leaf (nat_lit 8, nat_lit 19, nat_lit 3, nat_lit 26, nat_lit 0, nat_lit 0, [])) (.leaf (nat_lit 0, nat_lit 22, nat_lit 0, nat_lit 3, nat_lit 0, nat_lit 0, []))) (.branch (nat_lit 27) (.leaf (nat_lit 10, nat_lit 23, nat_lit 0, nat_lit 27, nat_lit 0, nat_lit 0, [])) (.leaf (nat_lit 24, nat_lit 27, nat_lit 1, nat_lit 0, nat_lit 0, nat_lit 0, [])))))), [nat_lit 7053, nat_lit 1013, nat_lit 7052, nat_lit 49])
set_option maxRecDepth 100000 in
def q_M188 : qM × List Nat := ((yX11_placed, cX11_placed, nat_lit 4, some .int, nat_lit 11, nat_lit 2, nat_lit 2, nat_lit 0, nat_lit 0, .branch (nat_lit 6) (.branch (nat_lit 2) (.branch (nat_lit 1) (.leaf (nat_lit 1, nat_lit 0, nat_lit 4, nat_lit 0, nat_lit 0, nat_lit 0, [])) (.leaf (nat_lit 1, nat_lit 1, nat_lit 0, nat_lit 1, nat_lit 0, nat_lit 0, []))) (.branch (nat_lit 5) (.leaf (nat_lit 23, nat_lit 2, nat_lit 2, nat_lit 112, nat_lit 7050, nat_lit 187, [])) (.leaf (nat_lit 2, nat_lit 5, nat_lit 0, nat_lit 3, nat_lit 0, nat_lit 0, [])))) (.branch (nat_lit 10) (.branch (nat_lit 7) (.leaf (nat_lit 1, nat_lit 6, nat_lit 0, nat_lit 3, nat_lit 0, nat_lit 0, [])) (.leaf (nat_lit 8, nat_lit 7, nat_lit 5, nat_lit 14, nat_lit 0, nat_lit 0, []))) (.branch (nat_lit 11) (.leaf (nat_lit 1, nat_lit 10, nat_lit 0, nat_lit 3, nat_lit 0, nat_lit 0, [])) (.branch (nat_lit 33) (.leaf (nat_lit 10, nat_lit 11, nat_lit 0, nat_lit 33, nat_lit 0, nat_lit 0, [])) (.leaf (nat_lit 24, nat_lit 33, nat_lit 1, nat_lit 0, nat_lit 0, nat_lit 0, [])))))), [nat_lit 7049, nat_lit 1013, nat_lit 7048, nat_lit 48])
set_option maxRecDepth 100000 in
def q_M189 : qM × List Nat := ((yX11_write, cX11_write, nat_lit 5, some .boolean, nat_lit 11, nat_lit 2, nat_lit 3, nat_lit 0, nat_lit 0, .branch (nat_lit 9) (.branch (nat_lit 5) (.branch (nat_lit 1) (.leaf (nat_lit 1, nat_lit 0, nat_lit 4, nat_lit 0, nat_lit 0, nat_lit 0, [])) (.branch (nat_lit 2) (.leaf (nat_lit 0, nat_lit 1, nat_lit 0, nat_lit 0, nat_lit 0, nat_lit 0, [])) (.leaf (nat_lit 15, nat_lit 2, nat_lit 11, nat_lit 93, nat_lit 1, nat_lit 6102, [nat_lit 0])))) (.branch (nat_lit 7) (.branch (nat_lit 6) (.leaf (nat_lit 1, nat_lit 5, nat_lit 4, nat_lit 0, nat_lit 0, nat_lit 0, [])) (.leaf (nat_lit 1, nat_lit 6, nat_lit 4, nat_lit 0, nat_lit 0, nat_lit 0, []))) (.branch (nat_lit 8) (.leaf (nat_lit 1, nat_lit 7, nat_lit 0, nat_lit 1, nat_lit 0, nat_lit 0, [])) (.leaf (nat_lit 1, nat_lit 8, nat_lit 0, nat_lit 2, nat_lit 0, nat_lit 0, []))))) (.branch (nat_lit 16) (.branch (nat_lit 12) (.leaf (nat_lit 23, nat_lit 9, nat_lit 2, nat_lit 116, nat_lit 7046, nat_lit 188, [])) (.branch (nat_lit 15) (.leaf (nat_lit 15, nat_lit 12, nat_lit 11, nat_lit 96, nat_lit 0, nat_lit 6101, [nat_lit 0])) (.leaf (nat_lit 1, nat_lit 15, nat_lit 4, nat_lit 0, nat_lit 0, nat_lit 0, [])))) (.branch (nat_lit 22) (.branch (nat_lit 19) (.leaf (nat_lit 14, nat_lit 16, nat_lit 11, nat_lit 96, nat_lit 0, nat_lit 6101, [])) (.leaf (nat_lit 8, nat_lit 19, nat_lit 5, nat_lit 24, nat_lit 0, nat_lit 0, []))) (.branch (nat_lit 23) (.leaf (nat_lit 0, nat_lit 22, nat_lit 0, nat_lit 0, nat_lit 0, nat_lit 0, [])) (.leaf (nat_lit 24, nat_lit 23, nat_lit 1, nat_lit 0, nat_lit 0, nat_lit 0, [])))))), [nat_lit 7045, nat_lit 1013, nat_lit 7043, nat_lit 7044])
set_option maxRecDepth 100000 in
def q_M190 : qM × List Nat := ((yX11_read, cX11_read, nat_lit 3, some .long, nat_lit 11, nat_lit 2, nat_lit 2, nat_lit 0, nat_lit 0, .branch (nat_lit 9) (.branch (nat_lit 5) (.branch (nat_lit 1) (.leaf (nat_lit 1, nat_lit 0, nat_lit 4, nat_lit 0, nat_lit 0, nat_lit 0, [])) (.branch (nat_lit 2) (.leaf (nat_lit 0, nat_lit 1, nat_lit 0, nat_lit 0, nat_lit 0, nat_lit 0, [])) (.leaf (nat_lit 15, nat_lit 2, nat_lit 11, nat_lit 93, nat_lit 1, nat_lit 6102, [nat_lit 0])))) (.branch (nat_lit 7) (.branch (nat_lit 6) (.leaf (nat_lit 1, nat_lit 5, nat_lit 4, nat_lit 0, nat_lit 0, nat_lit 0, [])) (.leaf (nat_lit 1, nat_lit 6, nat_lit 4, nat_lit 0, nat_lit 0, nat_lit 0, []))) (.branch (nat_lit 8) (.leaf (nat_lit 1, nat_lit 7, nat_lit 0, nat_lit 1, nat_lit 0, nat_lit 0, [])) (.leaf (nat_lit 1, nat_lit 8, nat_lit 0, nat_lit 2, nat_lit 0, nat_lit 0, []))))) (.branch (nat_lit 19) (.branch (nat_lit 15) (.branch (nat_lit 12) (.leaf (nat_lit 23, nat_lit 9, nat_lit 2, nat_lit 116, nat_lit 7046, nat_lit 188, [])) (.leaf (nat_lit 15, nat_lit 12, nat_lit 11, nat_lit 96, nat_lit 0, nat_lit 6101, [nat_lit 0]))) (.branch (nat_lit 16) (.leaf (nat_lit 1, nat_lit 15, nat_lit 4, nat_lit 0, nat_lit 0, nat_lit 0, [])) (.leaf (nat_lit 14, nat_lit 16, nat_lit 11, nat_lit 96, nat_lit 0, nat_lit 6101, [])))) (.branch (nat_lit 25) (.branch (nat_lit 22) (.leaf (nat_lit 8, nat_lit 19, nat_lit 5, nat_lit 28, nat_lit 0, nat_lit 0, [])) (.leaf (nat_lit 0, nat_lit 22, nat_lit 6, nat_lit 124, nat_lit 18446744073709551615, nat_lit 7061, []))) (.branch (nat_lit 39) (.leaf (nat_lit 10, nat_lit 25, nat_lit 0, nat_lit 39, nat_lit 0, nat_lit 0, [])) (.leaf (nat_lit 24, nat_lit 39, nat_lit 2, nat_lit 0, nat_lit 0, nat_lit 0, [])))))), [nat_lit 7060, nat_lit 1013, nat_lit 7058, nat_lit 7059])
set_option maxRecDepth 100000 in
def q_M191 : qM × List Nat := ((yX11_pour, cX11_pour, nat_lit 9, some .boolean, nat_lit 11, nat_lit 2, nat_lit 5, nat_lit 0, nat_lit 0, .branch (nat_lit 24) (.branch (nat_lit 11) (.branch (nat_lit 5) (.branch (nat_lit 1) (.leaf (nat_lit 1, nat_lit 0, nat_lit 4, nat_lit 0, nat_lit 0, nat_lit 0, [])) (.branch (nat_lit 2) (.leaf (nat_lit 0, nat_lit 1, nat_lit 0, nat_lit 0, nat_lit 0, nat_lit 0, [])) (.leaf (nat_lit 15, nat_lit 2, nat_lit 11, nat_lit 93, nat_lit 1, nat_lit 6102, [nat_lit 0])))) (.branch (nat_lit 7) (.branch (nat_lit 6) (.leaf (nat_lit 1, nat_lit 5, nat_lit 4, nat_lit 0, nat_lit 0, nat_lit 0, [])) (.leaf (nat_lit 0, nat_lit 6, nat_lit 0, nat_lit 0, nat_lit 0, nat_lit 0, []))) (.branch (nat_lit 10) (.leaf (nat_lit 15, nat_lit 7, nat_lit 11, nat_lit 96, nat_lit 0, nat_lit 6101, [nat_lit 0])) (.leaf (nat_lit 1, nat_lit 10, nat_lit 0, nat_lit 1, nat_lit 0, nat_lit 0, []))))) (.branch (nat_lit 16) (.branch (nat_lit 14) (.leaf (nat_lit 8, nat_lit 11, nat_lit 2, nat_lit 28, nat_lit 0, nat_lit 0, [])) (.branch (nat_lit 15) (.leaf (nat_lit 1, nat_lit 14, nat_lit 0, nat_lit 1, nat_lit 0, nat_lit 0, [])) (.leaf (nat_lit 0, nat_lit 15, nat_lit 0, nat_lit 4, nat_lit 0, nat_lit 0, [])))) (.branch (nat_lit 20) (.branch (nat_lit 19) (.leaf (nat_lit 9, nat_lit 16, nat_lit 3, nat_lit 28, nat_lit 0, nat_lit 0, [])) (.leaf (nat_lit 1, nat_lit 19, nat_lit 0, nat_lit 3, nat_lit 0, nat_lit 0, []))) (.branch (nat_lit 23) (.leaf (nat_lit 8, nat_lit 20, nat_lit 2, nat_lit 28, nat_lit 0, nat_lit 0, [])) (.leaf (nat_lit 1, nat_lit 23, nat_lit 0, nat_lit 3, nat_lit 0, nat_lit 0, [])))))) (.branch (nat_lit 35) (.branch (nat_lit 29) (.branch (nat_lit 25) (.leaf (nat_lit 0, nat_lit 24, nat_lit 0, nat_lit 4, nat_lit 0, nat_lit 0, [])) (.branch (nat_lit 28) (.leaf (nat_lit 9, nat_lit 25, nat_lit 2, nat_lit 34, nat_lit 0, nat_lit 0, [])) (.leaf (nat_lit 1, nat_lit 28, nat_lit 4, nat_lit 0, nat_lit 0, nat_lit 0, [])))) (.branch (nat_lit 33) (.branch (nat_lit 30) (.leaf (nat_lit 0, nat_lit 29, nat_lit 0, nat_lit 1, nat_lit 0, nat_lit 0, [])) (.leaf (nat_lit 23, nat_lit 30, nat_lit 2, nat_lit 108, nat_lit 7038, nat_lit 182, []))) (.branch (nat_lit 34) (.leaf (nat_lit 24, nat_lit 33, nat_lit 1, nat_lit 0, nat_lit 0, nat_lit 0, [])) (.leaf (nat_lit 1, nat_lit 34, nat_lit 4, nat_lit 0, nat_lit 0, nat_lit 0, []))))) (.branch (nat_lit 52) (.branch (nat_lit 39) (.branch (nat_lit 38) (.leaf (nat_lit 14, nat_lit 35, nat_lit 11, nat_lit 17, nat_lit 5, nat_lit 6106, [])) (.leaf (nat_lit 1, nat_lit 38, nat_lit 0, nat_lit 1, nat_lit 0, nat_lit 0, []))) (.branch (nat_lit 40) (.leaf (nat_lit 20, nat_lit 39, nat_lit 0, nat_lit 0, nat_lit 0, nat_lit 0, [])) (.leaf (nat_lit 8, nat_lit 40, nat_lit 2, nat_lit 52, nat_lit 0, nat_lit 0, [])))) (.branch (nat_lit 54) (.branch (nat_lit 53) (.leaf (nat_lit 1, nat_lit 52, nat_lit 4, nat_lit 0, nat_lit 0, nat_lit 0, [])) (.leaf (nat_lit 0, nat_lit 53, nat_lit 0, nat_lit 3, nat_lit 0, nat_lit 0, []))) (.branch (nat_lit 57) (.leaf (nat_lit 23, nat_lit 54, nat_lit 2, nat_lit 108, nat_lit 7038, nat_lit 182, [])) (.leaf (nat_lit 24, nat_lit 57, nat_lit 1, nat_lit 0, nat_lit 0, nat_lit 0, []))))))), [nat_lit 7065, nat_lit 1013, nat_lit 7063, nat_lit 7064])
set_option maxRecDepth 100000 in
def q_M193 : qM × List Nat := ((yX11_isTray, cX11_isTray, nat_lit 2, some .boolean, nat_lit 11, nat_lit 2, nat_lit 1, nat_lit 0, nat_lit 0, .branch (nat_lit 3) (.branch (nat_lit 1) (.leaf (nat_lit 1, nat_lit 0, nat_lit 0, nat_lit 1, nat_lit 0, nat_lit 0, [])) (.branch (nat_lit 2) (.leaf (nat_lit 6, nat_lit 1, nat_lit 0, nat_lit 0, nat_lit 0, nat_lit 0, [])) (.leaf (nat_lit 0, nat_lit 2, nat_lit 3, nat_lit 0, nat_lit 0, nat_lit 0, [])))) (.branch (nat_lit 6) (.leaf (nat_lit 0, nat_lit 3, nat_lit 6, nat_lit 126, nat_lit 3, nat_lit 9003, [])) (.branch (nat_lit 9) (.leaf (nat_lit 23, nat_lit 6, nat_lit 0, nat_lit 128, nat_lit 7133, nat_lit 183, [])) (.leaf (nat_lit 24, nat_lit 9, nat_lit 1, nat_lit 0, nat_lit 0, nat_lit 0, []))))), [nat_lit 9002, nat_lit 1013, nat_lit 9001, nat_lit 113])
set_option maxRecDepth 100000 in
def q_M198 : qM × List Nat := ((yX11_next, cX11_next, nat_lit 2, none, nat_lit 11, nat_lit 2, nat_lit 0, nat_lit 0, nat_lit 0, .branch (nat_lit 60) (.branch (nat_lit 9) (.branch (nat_lit 2) (.branch (nat_lit 1) (.leaf (nat_lit 1, nat_lit 0, nat_lit 4, nat_lit 0, nat_lit 0, nat_lit 0, [])) (.leaf (nat_lit 1, nat_lit 1, nat_lit 4, nat_lit 0, nat_lit 0, nat_lit 0, []))) (.branch (nat_lit 5) (.leaf (nat_lit 14, nat_lit 2, nat_lit 11, nat_lit 135, nat_lit 16, nat_lit 6117, [])) (.branch (nat_lit 8) (.leaf (nat_lit 15, nat_lit 5, nat_lit 11, nat_lit 138, nat_lit 15, nat_lit 6116, [nat_lit 0])) (.leaf (nat_lit 1, nat_lit 8, nat_lit 4, nat_lit 0, nat_lit 0, nat_lit 0, []))))) (.branch (nat_lit 16) (.branch (nat_lit 12) (.leaf (nat_lit 14, nat_lit 9, nat_lit 11, nat_lit 138, nat_lit 15, nat_lit 6116, [])) (.branch (nat_lit 13) (.leaf (nat_lit 1, nat_lit 12, nat_lit 4, nat_lit 0, nat_lit 0, nat_lit 0, [])) (.leaf (nat_lit 14, nat_lit 13, nat_lit 11, nat_lit 132, nat_lit 9, nat_lit 6110, [])))) (.branch (nat_lit 58) (.leaf (nat_lit 9, nat_lit 16, nat_lit 3, nat_lit 58, nat_lit 0, nat_lit 0, [])) (.branch (nat_lit 59) (.leaf (nat_lit 1, nat_lit 58, nat_lit 4, nat_lit 0, nat_lit 0, nat_lit 0, [])) (.leaf (nat_lit 1, nat_lit 59, nat_lit 4, nat_lit 0, nat_lit 0, nat_lit 0, [])))))) (.branch (nat_lit 71) (.branch (nat_lit 66) (.branch (nat_lit 63) (.leaf (nat_lit 14, nat_lit 60, nat_lit 11, nat_lit 138, nat_lit 15, nat_lit 6116, [])) (.leaf (nat_lit 15, nat_lit 63, nat_lit 11, nat_lit 135, nat_lit 16, nat_lit 6117, [nat_lit 0]))) (.branch (nat_lit 67) (.leaf (nat_lit 1, nat_lit 66, nat_lit 4, nat_lit 0, nat_lit 0, nat_lit 0, [])) (.branch (nat_lit 70) (.leaf (nat_lit 14, nat_lit 67, nat_lit 11, nat_lit 138, nat_lit 15, nat_lit 6116, [])) (.leaf (nat_lit 1, nat_lit 70, nat_lit 4, nat_lit 0, nat_lit 0, nat_lit 0, []))))) (.branch (nat_lit 78) (.branch (nat_lit 74) (.leaf (nat_lit 14, nat_lit 71, nat_lit 11, nat_lit 132, nat_lit 9, nat_lit 6110, [])) (.branch (nat_lit 77) (.leaf (nat_lit 9, nat_lit 74, nat_lit 2, nat_lit 83, nat_lit 0, nat_lit 0, [])) (.leaf (nat_lit 1, nat_lit 77, nat_lit 4, nat_lit 0, nat_lit 0, nat_lit 0, [])))) (.branch (nat_lit 79) (.leaf (nat_lit 0, nat_lit 78, nat_lit 0, nat_lit 0, nat_lit 0, nat_lit 0, [])) (.branch (nat_lit 82) (.leaf (nat_lit 15, nat_lit 79, nat_lit 11, nat_lit 144, nat_lit 14, nat_lit 6115, [nat_lit 0])) (.leaf (nat_lit 24, nat_lit 82, nat_lit 0, nat_lit 0, nat_lit 0, nat_lit 0, []))))))), [nat_lit 7089, nat_lit 1013, nat_lit 7088, nat_lit 52])
set_option maxRecDepth 100000 in
def q_M199 : qM × List Nat := ((yX11_isSign, cX11_isSign, nat_lit 2, some .boolean, nat_lit 11, nat_lit 2, nat_lit 1, nat_lit 0, nat_lit 0, .branch (nat_lit 5) (.branch (nat_lit 1) (.leaf (nat_lit 1, nat_lit 0, nat_lit 4, nat_lit 0, nat_lit 0, nat_lit 0, [])) (.branch (nat_lit 4) (.leaf (nat_lit 14, nat_lit 1, nat_lit 11, nat_lit 144, nat_lit 14, nat_lit 6115, [])) (.leaf (nat_lit 0, nat_lit 4, nat_lit 0, nat_lit 3, nat_lit 0, nat_lit 0, [])))) (.branch (nat_lit 20) (.leaf (nat_lit 9, nat_lit 5, nat_lit 1, nat_lit 20, nat_lit 0, nat_lit 0, [])) (.branch (nat_lit 21) (.leaf (nat_lit 0, nat_lit 20, nat_lit 0, nat_lit 0, nat_lit 0, nat_lit 0, [])) (.leaf (nat_lit 24, nat_lit 21, nat_lit 1, nat_lit 0, nat_lit 0, nat_lit 0, []))))), [nat_lit 7143, nat_lit 1013, nat_lit 7142, nat_lit 62])
set_option maxRecDepth 100000 in
def q_M200 : qM × List Nat := ((yX11_spelled, cX11_spelled, nat_lit 8, some .long, nat_lit 11, nat_lit 0, nat_lit 6, nat_lit 0, nat_lit 0, .branch (nat_lit 36) (.branch (nat_lit 17) (.branch (nat_lit 9) (.branch (nat_lit 2) (.branch (nat_lit 1) (.leaf (nat_lit 1, nat_lit 0, nat_lit 0, nat_lit 0, nat_lit 0, nat_lit 0, [])) (.leaf (nat_lit 6, nat_lit 1, nat_lit 0, nat_lit 0, nat_lit 0, nat_lit 0, []))) (.branch (nat_lit 5) (.leaf (nat_lit 0, nat_lit 2, nat_lit 6, nat_lit 155, nat_lit 96, nat_lit 7098, [])) (.branch (nat_lit 6) (.leaf (nat_lit 5, nat_lit 5, nat_lit 1, nat_lit 0, nat_lit 0, nat_lit 0, [])) (.leaf (nat_lit 0, nat_lit 6, nat_lit 6, nat_lit 153, nat_lit 32, nat_lit 7097, []))))) (.branch (nat_lit 12) (.branch (nat_lit 10) (.leaf (nat_lit 5, nat_lit 9, nat_lit 2, nat_lit 0, nat_lit 0, nat_lit 0, [])) (.branch (nat_lit 11) (.leaf (nat_lit 1, nat_lit 10, nat_lit 0, nat_lit 1, nat_lit 0, nat_lit 0, [])) (.leaf (nat_lit 6, nat_lit 11, nat_lit 0, nat_lit 0, nat_lit 0, nat_lit 0, [])))) (.branch (nat_lit 13) (.leaf (nat_lit 5, nat_lit 12, nat_lit 0, nat_lit 0, nat_lit 0, nat_lit 0, [])) (.branch (nat_lit 16) (.leaf (nat_lit 0, nat_lit 13, nat_lit 6, nat_lit 155, nat_lit 96, nat_lit 7098, [])) (.leaf (nat_lit 5, nat_lit 16, nat_lit 1, nat_lit 0, nat_lit 0, nat_lit 0, [])))))) (.branch (nat_lit 28) (.branch (nat_lit 20) (.branch (nat_lit 19) (.leaf (nat_lit 2, nat_lit 17, nat_lit 3, nat_lit 6, nat_lit 0, nat_lit 0, [])) (.leaf (nat_lit 1, nat_lit 19, nat_lit 0, nat_lit 2, nat_lit 0, nat_lit 0, []))) (.branch (nat_lit 23) (.leaf (nat_lit 8, nat_lit 20, nat_lit 5, nat_lit 39, nat_lit 0, nat_lit 0, [])) (.branch (nat_lit 25) (.leaf (nat_lit 1, nat_lit 23, nat_lit 3, nat_lit 6, nat_lit 0, nat_lit 0, [])) (.leaf (nat_lit 0, nat_lit 25, nat_lit 6, nat_lit 153, nat_lit 32, nat_lit 7097, []))))) (.branch (nat_lit 31) (.branch (nat_lit 29) (.leaf (nat_lit 5, nat_lit 28, nat_lit 2, nat_lit 0, nat_lit 0, nat_lit 0, [])) (.branch (nat_lit 30) (.leaf (nat_lit 1, nat_lit 29, nat_lit 0, nat_lit 2, nat_lit 0, nat_lit 0, [])) (.leaf (nat_lit 6, nat_lit 30, nat_lit 0, nat_lit 0, nat_lit 0, nat_lit 0, [])))) (.branch (nat_lit 32) (.leaf (nat_lit 5, nat_lit 31, nat_lit 0, nat_lit 0, nat_lit 0, nat_lit 0, [])) (.branch (nat_lit 35) (.leaf (nat_lit 0, nat_lit 32, nat_lit 6, nat_lit 155, nat_lit 96, nat_lit 7098, [])) (.leaf (nat_lit 5, nat_lit 35, nat_lit 1, nat_lit 0, nat_lit 0, nat_lit 0, []))))))) (.branch (nat_lit 59) (.branch (nat_lit 49) (.branch (nat_lit 43) (.branch (nat_lit 41) (.leaf (nat_lit 10, nat_lit 36, nat_lit 0, nat_lit 41, nat_lit 0, nat_lit 0, [])) (.leaf (nat_lit 2, nat_lit 41, nat_lit 3, nat_lit 6, nat_lit 0, nat_lit 0, []))) (.branch (nat_lit 44) (.leaf (nat_lit 1, nat_lit 43, nat_lit 0, nat_lit 3, nat_lit 0, nat_lit 0, [])) (.branch (nat_lit 47) (.leaf (nat_lit 8, nat_lit 44, nat_lit 5, nat_lit 63, nat_lit 0, nat_lit 0, [])) (.leaf (nat_lit 1, nat_lit 47, nat_lit 3, nat_lit 6, nat_lit 0, nat_lit 0, []))))) (.branch (nat_lit 54) (.branch (nat_lit 52) (.leaf (nat_lit 0, nat_lit 49, nat_lit 6, nat_lit 153, nat_lit 32, nat_lit 7097, [])) (.branch (nat_lit 53) (.leaf (nat_lit 5, nat_lit 52, nat_lit 2, nat_lit 0, nat_lit 0, nat_lit 0, [])) (.leaf (nat_lit 1, nat_lit 53, nat_lit 0, nat_lit 3, nat_lit 0, nat_lit 0, [])))) (.branch (nat_lit 55) (.leaf (nat_lit 6, nat_lit 54, nat_lit 0, nat_lit 0, nat_lit 0, nat_lit 0, [])) (.branch (nat_lit 56) (.leaf (nat_lit 5, nat_lit 55, nat_lit 0, nat_lit 0, nat_lit 0, nat_lit 0, [])) (.leaf (nat_lit 0, nat_lit 56, nat_lit 6, nat_lit 155, nat_lit 96, nat_lit 7098, [])))))) (.branch (nat_lit 89) (.branch (nat_lit 65) (.branch (nat_lit 60) (.leaf (nat_lit 5, nat_lit 59, nat_lit 1, nat_lit 0, nat_lit 0, nat_lit 0, [])) (.leaf (nat_lit 10, nat_lit 60, nat_lit 0, nat_lit 65, nat_lit 0, nat_lit 0, []))) (.branch (nat_lit 67) (.leaf (nat_lit 2, nat_lit 65, nat_lit 3, nat_lit 6, nat_lit 0, nat_lit 0, [])) (.branch (nat_lit 69) (.leaf (nat_lit 1, nat_lit 67, nat_lit 1, nat_lit 4, nat_lit 0, nat_lit 0, [])) (.leaf (nat_lit 8, nat_lit 69, nat_lit 5, nat_lit 89, nat_lit 0, nat_lit 0, []))))) (.branch (nat_lit 95) (.branch (nat_lit 91) (.leaf (nat_lit 1, nat_lit 89, nat_lit 3, nat_lit 6, nat_lit 0, nat_lit 0, [])) (.branch (nat_lit 93) (.leaf (nat_lit 2, nat_lit 91, nat_lit 3, nat_lit 6, nat_lit 0, nat_lit 0, [])) (.leaf (nat_lit 1, nat_lit 93, nat_lit 1, nat_lit 5, nat_lit 0, nat_lit 0, [])))) (.branch (nat_lit 115) (.leaf (nat_lit 8, nat_lit 95, nat_lit 5, nat_lit 115, nat_lit 0, nat_lit 0, [])) (.branch (nat_lit 117) (.leaf (nat_lit 1, nat_lit 115, nat_lit 3, nat_lit 6, nat_lit 0, nat_lit 0, [])) (.leaf (nat_lit 24, nat_lit 117, nat_lit 2, nat_lit 0, nat_lit 0, nat_lit 0, [])))))))), [nat_lit 7112, nat_lit 1013, nat_lit 7111, nat_lit 0])
set_option maxRecDepth 100000 in
def q_M201 : qM × List Nat := ((yX11_isWord, cX11_isWord, nat_lit 3, some .boolean, nat_lit 11, nat_lit 2, nat_lit 1, nat_lit 0, nat_lit 0, .branch (nat_lit 5) (.branch (nat_lit 1) (.leaf (nat_lit 1, nat_lit 0, nat_lit 4, nat_lit 0, nat_lit 0, nat_lit 0, [])) (.branch (nat_lit 4) (.leaf (nat_lit 14, nat_lit 1, nat_lit 11, nat_lit 144, nat_lit 14, nat_lit 6115, [])) (.leaf (nat_lit 0, nat_lit 4, nat_lit 0, nat_lit 1, nat_lit 0, nat_lit 0, [])))) (.branch (nat_lit 21) (.leaf (nat_lit 9, nat_lit 5, nat_lit 1, nat_lit 21, nat_lit 0, nat_lit 0, [])) (.branch (nat_lit 22) (.leaf (nat_lit 0, nat_lit 21, nat_lit 0, nat_lit 0, nat_lit 0, nat_lit 0, [])) (.leaf (nat_lit 24, nat_lit 22, nat_lit 1, nat_lit 0, nat_lit 0, nat_lit 0, []))))), [nat_lit 7116, nat_lit 1013, nat_lit 7115, nat_lit 56])
set_option maxRecDepth 100000 in
def q_M202 : qM × List Nat := ((yX11_isOath, cX11_isOath, nat_lit 1, some .boolean, nat_lit 11, nat_lit 2, nat_lit 0, nat_lit 0, nat_lit 0, .branch (nat_lit 9) (.branch (nat_lit 3) (.branch (nat_lit 1) (.leaf (nat_lit 1, nat_lit 0, nat_lit 4, nat_lit 0, nat_lit 0, nat_lit 0, [])) (.leaf (nat_lit 0, nat_lit 1, nat_lit 1, nat_lit 111, nat_lit 0, nat_lit 0, []))) (.branch (nat_lit 5) (.leaf (nat_lit 0, nat_lit 3, nat_lit 1, nat_lit 97, nat_lit 0, nat_lit 0, [])) (.branch (nat_lit 7) (.leaf (nat_lit 0, nat_lit 5, nat_lit 1, nat_lit 116, nat_lit 0, nat_lit 0, [])) (.leaf (nat_lit 0, nat_lit 7, nat_lit 1, nat_lit 104, nat_lit 0, nat_lit 0, []))))) (.branch (nat_lit 11) (.branch (nat_lit 10) (.leaf (nat_lit 0, nat_lit 9, nat_lit 0, nat_lit 0, nat_lit 0, nat_lit 0, [])) (.leaf (nat_lit 0, nat_lit 10, nat_lit 0, nat_lit 0, nat_lit 0, nat_lit 0, []))) (.branch (nat_lit 14) (.leaf (nat_lit 23, nat_lit 11, nat_lit 0, nat_lit 169, nat_lit 7110, nat_lit 200, [])) (.branch (nat_lit 17) (.leaf (nat_lit 23, nat_lit 14, nat_lit 2, nat_lit 173, nat_lit 7113, nat_lit 201, [])) (.leaf (nat_lit 24, nat_lit 17, nat_lit 1, nat_lit 0, nat_lit 0, nat_lit 0, [])))))), [nat_lit 7109, nat_lit 1013, nat_lit 7108, nat_lit 55])
set_option maxRecDepth 100000 in
def q_M203 : qM × List Nat := ((yX11_isFrom, cX11_isFrom, nat_lit 1, some .boolean, nat_lit 11, nat_lit 2, nat_lit 0, nat_lit 0, nat_lit 0, .branch (nat_lit 9) (.branch (nat_lit 3) (.branch (nat_lit 1) (.leaf (nat_lit 1, nat_lit 0, nat_lit 4, nat_lit 0, nat_lit 0, nat_lit 0, [])) (.leaf (nat_lit 0, nat_lit 1, nat_lit 1, nat_lit 102, nat_lit 0, nat_lit 0, []))) (.branch (nat_lit 5) (.leaf (nat_lit 0, nat_lit 3, nat_lit 1, nat_lit 114, nat_lit 0, nat_lit 0, [])) (.branch (nat_lit 7) (.leaf (nat_lit 0, nat_lit 5, nat_lit 1, nat_lit 111, nat_lit 0, nat_lit 0, [])) (.leaf (nat_lit 0, nat_lit 7, nat_lit 1, nat_lit 109, nat_lit 0, nat_lit 0, []))))) (.branch (nat_lit 11) (.branch (nat_lit 10) (.leaf (nat_lit 0, nat_lit 9, nat_lit 0, nat_lit 0, nat_lit 0, nat_lit 0, [])) (.leaf (nat_lit 0, nat_lit 10, nat_lit 0, nat_lit 0, nat_lit 0, nat_lit 0, []))) (.branch (nat_lit 14) (.leaf (nat_lit 23, nat_lit 11, nat_lit 0, nat_lit 169, nat_lit 7110, nat_lit 200, [])) (.branch (nat_lit 17) (.leaf (nat_lit 23, nat_lit 14, nat_lit 2, nat_lit 173, nat_lit 7113, nat_lit 201, [])) (.leaf (nat_lit 24, nat_lit 17, nat_lit 1, nat_lit 0, nat_lit 0, nat_lit 0, [])))))), [nat_lit 7139, nat_lit 1013, nat_lit 7138, nat_lit 61])
set_option maxRecDepth 100000 in
def q_M217 : qM × List Nat := ((yX11_fail, cX11_fail, nat_lit 3, none, nat_lit 11, nat_lit 2, nat_lit 2, nat_lit 0, nat_lit 0, .branch (nat_lit 10) (.branch (nat_lit 4) (.branch (nat_lit 1) (.leaf (nat_lit 1, nat_lit 0, nat_lit 4, nat_lit 0, nat_lit 0, nat_lit 0, [])) (.leaf (nat_lit 14, nat_lit 1, nat_lit 11, nat_lit 221, nat_lit 12, nat_lit 6113, []))) (.branch (nat_lit 8) (.leaf (nat_lit 8, nat_lit 4, nat_lit 5, nat_lit 8, nat_lit 0, nat_lit 0, [])) (.branch (nat_lit 9) (.leaf (nat_lit 1, nat_lit 8, nat_lit 4, nat_lit 0, nat_lit 0, nat_lit 0, [])) (.leaf (nat_lit 1, nat_lit 9, nat_lit 0, nat_lit 1, nat_lit 0, nat_lit 0, []))))) (.branch (nat_lit 14) (.branch (nat_lit 13) (.leaf (nat_lit 15, nat_lit 10, nat_lit 11, nat_lit 221, nat_lit 12, nat_lit 6113, [nat_lit 0])) (.leaf (nat_lit 1, nat_lit 13, nat_lit 4, nat_lit 0, nat_lit 0, nat_lit 0, []))) (.branch (nat_lit 15) (.leaf (nat_lit 1, nat_lit 14, nat_lit 0, nat_lit 2, nat_lit 0, nat_lit 0, [])) (.branch (nat_lit 18) (.leaf (nat_lit 15, nat_lit 15, nat_lit 11, nat_lit 224, nat_lit 13, nat_lit 6114, [nat_lit 0])) (.leaf (nat_lit 24, nat_lit 18, nat_lit 0, nat_lit 0, nat_lit 0, nat_lit 0, [])))))), [nat_lit 7128, nat_lit 1013, nat_lit 7127, nat_lit 59])
set_option maxRecDepth 100000 in
def q_M218 : qM × List Nat := ((yX11_wrongToken, cX11_wrongToken, nat_lit 1, none, nat_lit 11, nat_lit 2, nat_lit 0, nat_lit 0, nat_lit 0, .branch (nat_lit 13) (.branch (nat_lit 2) (.branch (nat_lit 1) (.leaf (nat_lit 1, nat_lit 0, nat_lit 4, nat_lit 0, nat_lit 0, nat_lit 0, [])) (.leaf (nat_lit 1, nat_lit 1, nat_lit 4, nat_lit 0, nat_lit 0, nat_lit 0, []))) (.branch (nat_lit 5) (.leaf (nat_lit 14, nat_lit 2, nat_lit 11, nat_lit 144, nat_lit 14, nat_lit 6115, [])) (.branch (nat_lit 6) (.leaf (nat_lit 0, nat_lit 5, nat_lit 0, nat_lit 4, nat_lit 0, nat_lit 0, [])) (.leaf (nat_lit 9, nat_lit 6, nat_lit 1, nat_lit 13, nat_lit 0, nat_lit 0, []))))) (.branch (nat_lit 15) (.branch (nat_lit 14) (.leaf (nat_lit 0, nat_lit 13, nat_lit 0, nat_lit 2, nat_lit 0, nat_lit 0, [])) (.leaf (nat_lit 1, nat_lit 14, nat_lit 4, nat_lit 0, nat_lit 0, nat_lit 0, []))) (.branch (nat_lit 18) (.leaf (nat_lit 14, nat_lit 15, nat_lit 11, nat_lit 138, nat_lit 15, nat_lit 6116, [])) (.branch (nat_lit 21) (.leaf (nat_lit 23, nat_lit 18, nat_lit 2, nat_lit 227, nat_lit 7125, nat_lit 217, [])) (.leaf (nat_lit 24, nat_lit 21, nat_lit 0, nat_lit 0, nat_lit 0, nat_lit 0, [])))))), [nat_lit 7124, nat_lit 1013, nat_lit 7123, nat_lit 58])
set_option maxRecDepth 100000 in
def q_M219 : qM × List Nat := ((yX11_must, cX11_must, nat_lit 2, none, nat_lit 11, nat_lit 2, nat_lit 1, nat_lit 0, nat_lit 0, .branch (nat_lit 8) (.branch (nat_lit 4) (.branch (nat_lit 1) (.leaf (nat_lit 1, nat_lit 0, nat_lit 4, nat_lit 0, nat_lit 0, nat_lit 0, [])) (.leaf (nat_lit 14, nat_lit 1, nat_lit 11, nat_lit 221, nat_lit 12, nat_lit 6113, []))) (.branch (nat_lit 7) (.leaf (nat_lit 8, nat_lit 4, nat_lit 5, nat_lit 8, nat_lit 0, nat_lit 0, [])) (.leaf (nat_lit 24, nat_lit 7, nat_lit 0, nat_lit 0, nat_lit 0, nat_lit 0, [])))) (.branch (nat_lit 19) (.branch (nat_lit 9) (.leaf (nat_lit 1, nat_lit 8, nat_lit 0, nat_lit 1, nat_lit 0, nat_lit 0, [])) (.leaf (nat_lit 8, nat_lit 9, nat_lit 0, nat_lit 19, nat_lit 0, nat_lit 0, []))) (.branch (nat_lit 20) (.leaf (nat_lit 1, nat_lit 19, nat_lit 4, nat_lit 0, nat_lit 0, nat_lit 0, [])) (.branch (nat_lit 23) (.leaf (nat_lit 23, nat_lit 20, nat_lit 2, nat_lit 234, nat_lit 7121, nat_lit 218, [])) (.leaf (nat_lit 24, nat_lit 23, nat_lit 0, nat_lit 0, nat_lit 0, nat_lit 0, [])))))), [nat_lit 7120, nat_lit 1013, nat_lit 7119, nat_lit 57])
set_option maxRecDepth 100000 in
def q_M220 : qM × List Nat := ((yX11_count, cX11_count, nat_lit 4, some .int, nat_lit 11, nat_lit 2, nat_lit 2, nat_lit 0, nat_lit 0, .branch (nat_lit 23) (.branch (nat_lit 4) (.branch (nat_lit 1) (.leaf (nat_lit 1, nat_lit 0, nat_lit 4, nat_lit 0, nat_lit 0, nat_lit 0, [])) (.leaf (nat_lit 14, nat_lit 1, nat_lit 11, nat_lit 221, nat_lit 12, nat_lit 6113, []))) (.branch (nat_lit 19) (.leaf (nat_lit 8, nat_lit 4, nat_lit 1, nat_lit 19, nat_lit 0, nat_lit 0, [])) (.branch (nat_lit 20) (.leaf (nat_lit 1, nat_lit 19, nat_lit 4, nat_lit 0, nat_lit 0, nat_lit 0, [])) (.leaf (nat_lit 14, nat_lit 20, nat_lit 11, nat_lit 221, nat_lit 12, nat_lit 6113, []))))) (.branch (nat_lit 54) (.branch (nat_lit 50) (.leaf (nat_lit 8, nat_lit 23, nat_lit 1, nat_lit 50, nat_lit 0, nat_lit 0, [])) (.branch (nat_lit 51) (.leaf (nat_lit 1, nat_lit 50, nat_lit 4, nat_lit 0, nat_lit 0, nat_lit 0, [])) (.leaf (nat_lit 14, nat_lit 51, nat_lit 11, nat_lit 221, nat_lit 12, nat_lit 6113, [])))) (.branch (nat_lit 57) (.leaf (nat_lit 8, nat_lit 54, nat_lit 5, nat_lit 59, nat_lit 0, nat_lit 0, [])) (.branch (nat_lit 58) (.leaf (nat_lit 0, nat_lit 57, nat_lit 0, nat_lit 0, nat_lit 0, nat_lit 0, [])) (.leaf (nat_lit 24, nat_lit 58, nat_lit 1, nat_lit 0, nat_lit 0, nat_lit 0, [])))))), [nat_lit 7132, nat_lit 1013, nat_lit 7131, nat_lit 60])
set_option maxRecDepth 100000 in
def q_M221 : qM × List Nat := ((yX11_feed, cX11_feed, nat_lit 6, some .int, nat_lit 11, nat_lit 2, nat_lit 5, nat_lit 0, nat_lit 0, .branch (nat_lit 26) (.branch (nat_lit 11) (.branch (nat_lit 5) (.branch (nat_lit 1) (.leaf (nat_lit 1, nat_lit 0, nat_lit 4, nat_lit 0, nat_lit 0, nat_lit 0, [])) (.branch (nat_lit 2) (.leaf (nat_lit 0, nat_lit 1, nat_lit 0, nat_lit 0, nat_lit 0, nat_lit 0, [])) (.leaf (nat_lit 15, nat_lit 2, nat_lit 11, nat_lit 93, nat_lit 1, nat_lit 6102, [nat_lit 0])))) (.branch (nat_lit 6) (.leaf (nat_lit 1, nat_lit 5, nat_lit 4, nat_lit 0, nat_lit 0, nat_lit 0, [])) (.branch (nat_lit 9) (.leaf (nat_lit 14, nat_lit 6, nat_lit 11, nat_lit 237, nat_lit 8, nat_lit 6109, [])) (.leaf (nat_lit 0, nat_lit 9, nat_lit 1, nat_lit 20, nat_lit 0, nat_lit 0, []))))) (.branch (nat_lit 20) (.branch (nat_lit 12) (.leaf (nat_lit 4, nat_lit 11, nat_lit 0, nat_lit 0, nat_lit 0, nat_lit 0, [])) (.branch (nat_lit 15) (.leaf (nat_lit 0, nat_lit 12, nat_lit 2, nat_lit 900, nat_lit 0, nat_lit 0, [])) (.leaf (nat_lit 9, nat_lit 15, nat_lit 5, nat_lit 20, nat_lit 0, nat_lit 0, [])))) (.branch (nat_lit 22) (.branch (nat_lit 21) (.leaf (nat_lit 1, nat_lit 20, nat_lit 4, nat_lit 0, nat_lit 0, nat_lit 0, [])) (.leaf (nat_lit 1, nat_lit 21, nat_lit 0, nat_lit 1, nat_lit 0, nat_lit 0, []))) (.branch (nat_lit 25) (.leaf (nat_lit 23, nat_lit 22, nat_lit 2, nat_lit 240, nat_lit 7070, nat_lit 222, [])) (.leaf (nat_lit 1, nat_lit 25, nat_lit 4, nat_lit 0, nat_lit 0, nat_lit 0, [])))))) (.branch (nat_lit 38) (.branch (nat_lit 31) (.branch (nat_lit 27) (.leaf (nat_lit 1, nat_lit 26, nat_lit 0, nat_lit 2, nat_lit 0, nat_lit 0, [])) (.branch (nat_lit 30) (.leaf (nat_lit 23, nat_lit 27, nat_lit 2, nat_lit 240, nat_lit 7070, nat_lit 222, [])) (.leaf (nat_lit 1, nat_lit 30, nat_lit 4, nat_lit 0, nat_lit 0, nat_lit 0, [])))) (.branch (nat_lit 35) (.branch (nat_lit 32) (.leaf (nat_lit 1, nat_lit 31, nat_lit 0, nat_lit 3, nat_lit 0, nat_lit 0, [])) (.leaf (nat_lit 23, nat_lit 32, nat_lit 2, nat_lit 240, nat_lit 7070, nat_lit 222, []))) (.branch (nat_lit 36) (.leaf (nat_lit 1, nat_lit 35, nat_lit 4, nat_lit 0, nat_lit 0, nat_lit 0, [])) (.leaf (nat_lit 1, nat_lit 36, nat_lit 1, nat_lit 4, nat_lit 0, nat_lit 0, []))))) (.branch (nat_lit 44) (.branch (nat_lit 41) (.leaf (nat_lit 23, nat_lit 38, nat_lit 2, nat_lit 240, nat_lit 7070, nat_lit 222, [])) (.branch (nat_lit 42) (.leaf (nat_lit 1, nat_lit 41, nat_lit 4, nat_lit 0, nat_lit 0, nat_lit 0, [])) (.leaf (nat_lit 1, nat_lit 42, nat_lit 1, nat_lit 5, nat_lit 0, nat_lit 0, [])))) (.branch (nat_lit 48) (.branch (nat_lit 47) (.leaf (nat_lit 23, nat_lit 44, nat_lit 2, nat_lit 240, nat_lit 7070, nat_lit 222, [])) (.leaf (nat_lit 1, nat_lit 47, nat_lit 4, nat_lit 0, nat_lit 0, nat_lit 0, []))) (.branch (nat_lit 51) (.leaf (nat_lit 14, nat_lit 48, nat_lit 11, nat_lit 237, nat_lit 8, nat_lit 6109, [])) (.leaf (nat_lit 24, nat_lit 51, nat_lit 1, nat_lit 0, nat_lit 0, nat_lit 0, []))))))), [nat_lit 7069, nat_lit 1013, nat_lit 7067, nat_lit 7068])
set_option maxRecDepth 100000 in
def q_M222 : qM × List Nat := ((yX11_lay, cX11_lay, nat_lit 3, none, nat_lit 11, nat_lit 2, nat_lit 1, nat_lit 0, nat_lit 0, .branch (nat_lit 19) (.branch (nat_lit 10) (.branch (nat_lit 3) (.branch (nat_lit 1) (.leaf (nat_lit 0, nat_lit 0, nat_lit 0, nat_lit 3, nat_lit 0, nat_lit 0, [])) (.branch (nat_lit 2) (.leaf (nat_lit 2, nat_lit 1, nat_lit 0, nat_lit 2, nat_lit 0, nat_lit 0, [])) (.leaf (nat_lit 1, nat_lit 2, nat_lit 0, nat_lit 2, nat_lit 0, nat_lit 0, [])))) (.branch (nat_lit 6) (.leaf (nat_lit 8, nat_lit 3, nat_lit 2, nat_lit 38, nat_lit 0, nat_lit 0, [])) (.branch (nat_lit 7) (.leaf (nat_lit 1, nat_lit 6, nat_lit 4, nat_lit 0, nat_lit 0, nat_lit 0, [])) (.leaf (nat_lit 14, nat_lit 7, nat_lit 11, nat_lit 24, nat_lit 7, nat_lit 6108, []))))) (.branch (nat_lit 15) (.branch (nat_lit 11) (.leaf (nat_lit 1, nat_lit 10, nat_lit 4, nat_lit 0, nat_lit 0, nat_lit 0, [])) (.branch (nat_lit 14) (.leaf (nat_lit 14, nat_lit 11, nat_lit 11, nat_lit 237, nat_lit 8, nat_lit 6109, [])) (.leaf (nat_lit 1, nat_lit 14, nat_lit 0, nat_lit 1, nat_lit 0, nat_lit 0, [])))) (.branch (nat_lit 17) (.leaf (nat_lit 0, nat_lit 15, nat_lit 1, nat_lit 8, nat_lit 0, nat_lit 0, [])) (.branch (nat_lit 18) (.leaf (nat_lit 1, nat_lit 17, nat_lit 0, nat_lit 2, nat_lit 0, nat_lit 0, [])) (.leaf (nat_lit 4, nat_lit 18, nat_lit 2, nat_lit 0, nat_lit 0, nat_lit 0, [])))))) (.branch (nat_lit 27) (.branch (nat_lit 22) (.branch (nat_lit 20) (.leaf (nat_lit 4, nat_lit 19, nat_lit 7, nat_lit 0, nat_lit 0, nat_lit 0, [])) (.branch (nat_lit 21) (.leaf (nat_lit 6, nat_lit 20, nat_lit 2, nat_lit 0, nat_lit 0, nat_lit 0, [])) (.leaf (nat_lit 21, nat_lit 21, nat_lit 1, nat_lit 0, nat_lit 0, nat_lit 0, [])))) (.branch (nat_lit 23) (.leaf (nat_lit 1, nat_lit 22, nat_lit 4, nat_lit 0, nat_lit 0, nat_lit 0, [])) (.branch (nat_lit 24) (.leaf (nat_lit 13, nat_lit 23, nat_lit 0, nat_lit 0, nat_lit 0, nat_lit 0, [])) (.leaf (nat_lit 14, nat_lit 24, nat_lit 11, nat_lit 237, nat_lit 8, nat_lit 6109, []))))) (.branch (nat_lit 32) (.branch (nat_lit 28) (.leaf (nat_lit 0, nat_lit 27, nat_lit 0, nat_lit 1, nat_lit 0, nat_lit 0, [])) (.branch (nat_lit 29) (.leaf (nat_lit 4, nat_lit 28, nat_lit 0, nat_lit 0, nat_lit 0, nat_lit 0, [])) (.leaf (nat_lit 15, nat_lit 29, nat_lit 11, nat_lit 237, nat_lit 8, nat_lit 6109, [nat_lit 0])))) (.branch (nat_lit 35) (.leaf (nat_lit 3, nat_lit 32, nat_lit 1, nat_lit 2, nat_lit 1, nat_lit 0, [])) (.branch (nat_lit 38) (.leaf (nat_lit 10, nat_lit 35, nat_lit 0, nat_lit 2, nat_lit 0, nat_lit 0, [])) (.leaf (nat_lit 24, nat_lit 38, nat_lit 0, nat_lit 0, nat_lit 0, nat_lit 0, []))))))), [nat_lit 7073, nat_lit 1013, nat_lit 7072, nat_lit 50])
set_option maxRecDepth 100000 in
def q_M223 : qM × List Nat := ((yX11_opens, cX11_opens, nat_lit 3, some .boolean, nat_lit 11, nat_lit 2, nat_lit 2, nat_lit 0, nat_lit 0, .branch (nat_lit 24) (.branch (nat_lit 13) (.branch (nat_lit 5) (.branch (nat_lit 1) (.leaf (nat_lit 1, nat_lit 0, nat_lit 0, nat_lit 1, nat_lit 0, nat_lit 0, [])) (.branch (nat_lit 4) (.leaf (nat_lit 8, nat_lit 1, nat_lit 2, nat_lit 17, nat_lit 0, nat_lit 0, [])) (.leaf (nat_lit 1, nat_lit 4, nat_lit 0, nat_lit 1, nat_lit 0, nat_lit 0, [])))) (.branch (nat_lit 9) (.branch (nat_lit 6) (.leaf (nat_lit 1, nat_lit 5, nat_lit 4, nat_lit 0, nat_lit 0, nat_lit 0, [])) (.leaf (nat_lit 14, nat_lit 6, nat_lit 11, nat_lit 237, nat_lit 8, nat_lit 6109, []))) (.branch (nat_lit 12) (.leaf (nat_lit 9, nat_lit 9, nat_lit 4, nat_lit 17, nat_lit 0, nat_lit 0, [])) (.leaf (nat_lit 1, nat_lit 12, nat_lit 0, nat_lit 1, nat_lit 0, nat_lit 0, []))))) (.branch (nat_lit 18) (.branch (nat_lit 14) (.leaf (nat_lit 1, nat_lit 13, nat_lit 0, nat_lit 2, nat_lit 0, nat_lit 0, [])) (.branch (nat_lit 17) (.leaf (nat_lit 9, nat_lit 14, nat_lit 5, nat_lit 23, nat_lit 0, nat_lit 0, [])) (.leaf (nat_lit 1, nat_lit 17, nat_lit 4, nat_lit 0, nat_lit 0, nat_lit 0, [])))) (.branch (nat_lit 22) (.branch (nat_lit 19) (.leaf (nat_lit 0, nat_lit 18, nat_lit 0, nat_lit 5, nat_lit 0, nat_lit 0, [])) (.leaf (nat_lit 23, nat_lit 19, nat_lit 2, nat_lit 108, nat_lit 7038, nat_lit 182, []))) (.branch (nat_lit 23) (.leaf (nat_lit 24, nat_lit 22, nat_lit 1, nat_lit 0, nat_lit 0, nat_lit 0, [])) (.leaf (nat_lit 1, nat_lit 23, nat_lit 4, nat_lit 0, nat_lit 0, nat_lit 0, [])))))) (.branch (nat_lit 35) (.branch (nat_lit 29) (.branch (nat_lit 25) (.leaf (nat_lit 1, nat_lit 24, nat_lit 0, nat_lit 1, nat_lit 0, nat_lit 0, [])) (.branch (nat_lit 28) (.leaf (nat_lit 15, nat_lit 25, nat_lit 11, nat_lit 132, nat_lit 9, nat_lit 6110, [nat_lit 0])) (.leaf (nat_lit 1, nat_lit 28, nat_lit 4, nat_lit 0, nat_lit 0, nat_lit 0, [])))) (.branch (nat_lit 33) (.branch (nat_lit 30) (.leaf (nat_lit 0, nat_lit 29, nat_lit 0, nat_lit 0, nat_lit 0, nat_lit 0, [])) (.leaf (nat_lit 15, nat_lit 30, nat_lit 11, nat_lit 237, nat_lit 8, nat_lit 6109, [nat_lit 0]))) (.branch (nat_lit 34) (.leaf (nat_lit 1, nat_lit 33, nat_lit 4, nat_lit 0, nat_lit 0, nat_lit 0, [])) (.leaf (nat_lit 0, nat_lit 34, nat_lit 0, nat_lit 0, nat_lit 0, nat_lit 0, []))))) (.branch (nat_lit 43) (.branch (nat_lit 39) (.branch (nat_lit 38) (.leaf (nat_lit 15, nat_lit 35, nat_lit 11, nat_lit 135, nat_lit 16, nat_lit 6117, [nat_lit 0])) (.leaf (nat_lit 1, nat_lit 38, nat_lit 4, nat_lit 0, nat_lit 0, nat_lit 0, []))) (.branch (nat_lit 40) (.leaf (nat_lit 0, nat_lit 39, nat_lit 0, nat_lit 0, nat_lit 0, nat_lit 0, [])) (.leaf (nat_lit 15, nat_lit 40, nat_lit 11, nat_lit 221, nat_lit 12, nat_lit 6113, [nat_lit 0])))) (.branch (nat_lit 47) (.branch (nat_lit 44) (.leaf (nat_lit 1, nat_lit 43, nat_lit 4, nat_lit 0, nat_lit 0, nat_lit 0, [])) (.leaf (nat_lit 23, nat_lit 44, nat_lit 2, nat_lit 231, nat_lit 7086, nat_lit 198, []))) (.branch (nat_lit 48) (.leaf (nat_lit 0, nat_lit 47, nat_lit 0, nat_lit 1, nat_lit 0, nat_lit 0, [])) (.leaf (nat_lit 24, nat_lit 48, nat_lit 1, nat_lit 0, nat_lit 0, nat_lit 0, []))))))), [nat_lit 7085, nat_lit 1013, nat_lit 7084, nat_lit 51])
set_option maxRecDepth 100000 in
def q_M224 : qM × List Nat := ((yX11_isWell, cX11_isWell, nat_lit 1, some .boolean, nat_lit 11, nat_lit 2, nat_lit 0, nat_lit 0, nat_lit 0, .branch (nat_lit 24) (.branch (nat_lit 10) (.branch (nat_lit 5) (.branch (nat_lit 1) (.leaf (nat_lit 1, nat_lit 0, nat_lit 4, nat_lit 0, nat_lit 0, nat_lit 0, [])) (.branch (nat_lit 2) (.leaf (nat_lit 1, nat_lit 1, nat_lit 4, nat_lit 0, nat_lit 0, nat_lit 0, [])) (.leaf (nat_lit 14, nat_lit 2, nat_lit 11, nat_lit 221, nat_lit 12, nat_lit 6113, [])))) (.branch (nat_lit 8) (.leaf (nat_lit 15, nat_lit 5, nat_lit 11, nat_lit 28, nat_lit 10, nat_lit 6111, [nat_lit 0])) (.branch (nat_lit 9) (.leaf (nat_lit 1, nat_lit 8, nat_lit 4, nat_lit 0, nat_lit 0, nat_lit 0, [])) (.leaf (nat_lit 1, nat_lit 9, nat_lit 4, nat_lit 0, nat_lit 0, nat_lit 0, []))))) (.branch (nat_lit 17) (.branch (nat_lit 13) (.leaf (nat_lit 14, nat_lit 10, nat_lit 11, nat_lit 221, nat_lit 12, nat_lit 6113, [])) (.branch (nat_lit 16) (.leaf (nat_lit 8, nat_lit 13, nat_lit 1, nat_lit 20, nat_lit 0, nat_lit 0, [])) (.leaf (nat_lit 0, nat_lit 16, nat_lit 0, nat_lit 1, nat_lit 1, nat_lit 0, [])))) (.branch (nat_lit 20) (.leaf (nat_lit 10, nat_lit 17, nat_lit 0, nat_lit 24, nat_lit 0, nat_lit 0, [])) (.branch (nat_lit 21) (.leaf (nat_lit 1, nat_lit 20, nat_lit 4, nat_lit 0, nat_lit 0, nat_lit 0, [])) (.leaf (nat_lit 14, nat_lit 21, nat_lit 11, nat_lit 224, nat_lit 13, nat_lit 6114, [])))))) (.branch (nat_lit 37) (.branch (nat_lit 31) (.branch (nat_lit 27) (.leaf (nat_lit 15, nat_lit 24, nat_lit 11, nat_lit 32, nat_lit 11, nat_lit 6112, [nat_lit 0])) (.branch (nat_lit 28) (.leaf (nat_lit 1, nat_lit 27, nat_lit 4, nat_lit 0, nat_lit 0, nat_lit 0, [])) (.leaf (nat_lit 14, nat_lit 28, nat_lit 11, nat_lit 221, nat_lit 12, nat_lit 6113, [])))) (.branch (nat_lit 34) (.leaf (nat_lit 8, nat_lit 31, nat_lit 0, nat_lit 43, nat_lit 0, nat_lit 0, [])) (.branch (nat_lit 35) (.leaf (nat_lit 1, nat_lit 34, nat_lit 4, nat_lit 0, nat_lit 0, nat_lit 0, [])) (.leaf (nat_lit 0, nat_lit 35, nat_lit 1, nat_lit 10, nat_lit 0, nat_lit 0, []))))) (.branch (nat_lit 44) (.branch (nat_lit 40) (.leaf (nat_lit 23, nat_lit 37, nat_lit 2, nat_lit 108, nat_lit 7038, nat_lit 182, [])) (.branch (nat_lit 43) (.leaf (nat_lit 8, nat_lit 40, nat_lit 0, nat_lit 47, nat_lit 0, nat_lit 0, [])) (.leaf (nat_lit 0, nat_lit 43, nat_lit 0, nat_lit 1, nat_lit 0, nat_lit 0, [])))) (.branch (nat_lit 47) (.leaf (nat_lit 10, nat_lit 44, nat_lit 0, nat_lit 48, nat_lit 0, nat_lit 0, [])) (.branch (nat_lit 48) (.leaf (nat_lit 0, nat_lit 47, nat_lit 0, nat_lit 0, nat_lit 0, nat_lit 0, [])) (.leaf (nat_lit 24, nat_lit 48, nat_lit 1, nat_lit 0, nat_lit 0, nat_lit 0, []))))))), [nat_lit 7219, nat_lit 1013, nat_lit 7218, nat_lit 81])
set_option maxRecDepth 100000 in
def q_M225 : qM × List Nat := ((yX11_fault, cX11_fault, nat_lit 2, some .int, nat_lit 11, nat_lit 2, nat_lit 1, nat_lit 0, nat_lit 0, .branch (nat_lit 16) (.branch (nat_lit 6) (.branch (nat_lit 2) (.branch (nat_lit 1) (.leaf (nat_lit 1, nat_lit 0, nat_lit 4, nat_lit 0, nat_lit 0, nat_lit 0, [])) (.leaf (nat_lit 0, nat_lit 1, nat_lit 0, nat_lit 0, nat_lit 0, nat_lit 0, []))) (.branch (nat_lit 5) (.leaf (nat_lit 15, nat_lit 2, nat_lit 11, nat_lit 93, nat_lit 1, nat_lit 6102, [nat_lit 0])) (.leaf (nat_lit 1, nat_lit 5, nat_lit 0, nat_lit 1, nat_lit 0, nat_lit 0, [])))) (.branch (nat_lit 10) (.branch (nat_lit 9) (.leaf (nat_lit 8, nat_lit 6, nat_lit 1, nat_lit 16, nat_lit 0, nat_lit 0, [])) (.leaf (nat_lit 1, nat_lit 9, nat_lit 4, nat_lit 0, nat_lit 0, nat_lit 0, []))) (.branch (nat_lit 13) (.leaf (nat_lit 14, nat_lit 10, nat_lit 11, nat_lit 28, nat_lit 10, nat_lit 6111, [])) (.leaf (nat_lit 10, nat_lit 13, nat_lit 0, nat_lit 29, nat_lit 0, nat_lit 0, []))))) (.branch (nat_lit 22) (.branch (nat_lit 18) (.branch (nat_lit 17) (.leaf (nat_lit 1, nat_lit 16, nat_lit 0, nat_lit 1, nat_lit 0, nat_lit 0, [])) (.leaf (nat_lit 0, nat_lit 17, nat_lit 0, nat_lit 1, nat_lit 0, nat_lit 0, []))) (.branch (nat_lit 21) (.leaf (nat_lit 9, nat_lit 18, nat_lit 1, nat_lit 28, nat_lit 0, nat_lit 0, [])) (.leaf (nat_lit 1, nat_lit 21, nat_lit 4, nat_lit 0, nat_lit 0, nat_lit 0, [])))) (.branch (nat_lit 28) (.branch (nat_lit 25) (.leaf (nat_lit 14, nat_lit 22, nat_lit 11, nat_lit 32, nat_lit 11, nat_lit 6112, [])) (.leaf (nat_lit 10, nat_lit 25, nat_lit 0, nat_lit 29, nat_lit 0, nat_lit 0, []))) (.branch (nat_lit 29) (.leaf (nat_lit 0, nat_lit 28, nat_lit 0, nat_lit 1, nat_lit 1, nat_lit 0, [])) (.leaf (nat_lit 24, nat_lit 29, nat_lit 1, nat_lit 0, nat_lit 0, nat_lit 0, [])))))), [nat_lit 7077, nat_lit 1013, nat_lit 7075, nat_lit 7076])
set_option maxRecDepth 100000 in
def q_M226 : qM × List Nat := ((yX11_stonesOf, cX11_stonesOf, nat_lit 4, some .int, nat_lit 11, nat_lit 2, nat_lit 1, nat_lit 0, nat_lit 0, .branch (nat_lit 9) (.branch (nat_lit 3) (.branch (nat_lit 1) (.leaf (nat_lit 0, nat_lit 0, nat_lit 0, nat_lit 0, nat_lit 0, nat_lit 0, [])) (.branch (nat_lit 2) (.leaf (nat_lit 2, nat_lit 1, nat_lit 0, nat_lit 2, nat_lit 0, nat_lit 0, [])) (.leaf (nat_lit 0, nat_lit 2, nat_lit 0, nat_lit 0, nat_lit 0, nat_lit 0, [])))) (.branch (nat_lit 5) (.branch (nat_lit 4) (.leaf (nat_lit 2, nat_lit 3, nat_lit 0, nat_lit 3, nat_lit 0, nat_lit 0, [])) (.leaf (nat_lit 1, nat_lit 4, nat_lit 0, nat_lit 3, nat_lit 0, nat_lit 0, []))) (.branch (nat_lit 6) (.leaf (nat_lit 1, nat_lit 5, nat_lit 4, nat_lit 0, nat_lit 0, nat_lit 0, [])) (.leaf (nat_lit 14, nat_lit 6, nat_lit 11, nat_lit 35, nat_lit 20, nat_lit 6121, []))))) (.branch (nat_lit 12) (.branch (nat_lit 10) (.leaf (nat_lit 1, nat_lit 9, nat_lit 0, nat_lit 1, nat_lit 0, nat_lit 0, [])) (.branch (nat_lit 11) (.leaf (nat_lit 0, nat_lit 10, nat_lit 0, nat_lit 2, nat_lit 0, nat_lit 0, [])) (.leaf (nat_lit 4, nat_lit 11, nat_lit 0, nat_lit 0, nat_lit 0, nat_lit 0, [])))) (.branch (nat_lit 36) (.branch (nat_lit 13) (.leaf (nat_lit 20, nat_lit 12, nat_lit 0, nat_lit 0, nat_lit 0, nat_lit 0, [])) (.leaf (nat_lit 9, nat_lit 13, nat_lit 3, nat_lit 36, nat_lit 0, nat_lit 0, []))) (.branch (nat_lit 37) (.leaf (nat_lit 1, nat_lit 36, nat_lit 0, nat_lit 2, nat_lit 0, nat_lit 0, [])) (.leaf (nat_lit 24, nat_lit 37, nat_lit 1, nat_lit 0, nat_lit 0, nat_lit 0, [])))))), [nat_lit 7211, nat_lit 1013, nat_lit 7210, nat_lit 79])
set_option maxRecDepth 100000 in
def q_M231 : qM × List Nat := ((yX11_wall, cX11_wall, nat_lit 3, some .int, nat_lit 11, nat_lit 2, nat_lit 1, nat_lit 0, nat_lit 0, .branch (nat_lit 61) (.branch (nat_lit 26) (.branch (nat_lit 12) (.branch (nat_lit 6) (.branch (nat_lit 2) (.branch (nat_lit 1) (.leaf (nat_lit 1, nat_lit 0, nat_lit 4, nat_lit 0, nat_lit 0, nat_lit 0, [])) (.leaf (nat_lit 0, nat_lit 1, nat_lit 0, nat_lit 0, nat_lit 0, nat_lit 0, []))) (.branch (nat_lit 5) (.leaf (nat_lit 15, nat_lit 2, nat_lit 11, nat_lit 93, nat_lit 1, nat_lit 6102, [nat_lit 0])) (.leaf (nat_lit 1, nat_lit 5, nat_lit 4, nat_lit 0, nat_lit 0, nat_lit 0, [])))) (.branch (nat_lit 10) (.branch (nat_lit 7) (.leaf (nat_lit 0, nat_lit 6, nat_lit 0, nat_lit 0, nat_lit 0, nat_lit 0, [])) (.leaf (nat_lit 15, nat_lit 7, nat_lit 11, nat_lit 96, nat_lit 0, nat_lit 6101, [nat_lit 0]))) (.branch (nat_lit 11) (.leaf (nat_lit 1, nat_lit 10, nat_lit 4, nat_lit 0, nat_lit 0, nat_lit 0, [])) (.leaf (nat_lit 1, nat_lit 11, nat_lit 0, nat_lit 1, nat_lit 0, nat_lit 0, []))))) (.branch (nat_lit 22) (.branch (nat_lit 18) (.branch (nat_lit 15) (.leaf (nat_lit 0, nat_lit 12, nat_lit 2, nat_lit 900, nat_lit 0, nat_lit 0, [])) (.leaf (nat_lit 23, nat_lit 15, nat_lit 2, nat_lit 257, nat_lit 7082, nat_lit 223, []))) (.branch (nat_lit 21) (.leaf (nat_lit 8, nat_lit 18, nat_lit 1, nat_lit 23, nat_lit 0, nat_lit 0, [])) (.leaf (nat_lit 0, nat_lit 21, nat_lit 0, nat_lit 1, nat_lit 1, nat_lit 0, [])))) (.branch (nat_lit 24) (.branch (nat_lit 23) (.leaf (nat_lit 24, nat_lit 22, nat_lit 1, nat_lit 0, nat_lit 0, nat_lit 0, [])) (.leaf (nat_lit 0, nat_lit 23, nat_lit 0, nat_lit 0, nat_lit 0, nat_lit 0, []))) (.branch (nat_lit 25) (.leaf (nat_lit 2, nat_lit 24, nat_lit 0, nat_lit 2, nat_lit 0, nat_lit 0, [])) (.leaf (nat_lit 1, nat_lit 25, nat_lit 0, nat_lit 2, nat_lit 0, nat_lit 0, [])))))) (.branch (nat_lit 42) (.branch (nat_lit 36) (.branch (nat_lit 32) (.branch (nat_lit 29) (.leaf (nat_lit 0, nat_lit 26, nat_lit 2, nat_lit 360, nat_lit 0, nat_lit 0, [])) (.leaf (nat_lit 9, nat_lit 29, nat_lit 3, nat_lit 49, nat_lit 0, nat_lit 0, []))) (.branch (nat_lit 33) (.leaf (nat_lit 1, nat_lit 32, nat_lit 4, nat_lit 0, nat_lit 0, nat_lit 0, [])) (.leaf (nat_lit 14, nat_lit 33, nat_lit 11, nat_lit 35, nat_lit 20, nat_lit 6121, [])))) (.branch (nat_lit 40) (.branch (nat_lit 39) (.leaf (nat_lit 0, nat_lit 36, nat_lit 2, nat_lit 1440, nat_lit 0, nat_lit 0, [])) (.leaf (nat_lit 1, nat_lit 39, nat_lit 0, nat_lit 2, nat_lit 0, nat_lit 0, []))) (.branch (nat_lit 41) (.leaf (nat_lit 4, nat_lit 40, nat_lit 0, nat_lit 0, nat_lit 0, nat_lit 0, [])) (.leaf (nat_lit 0, nat_lit 41, nat_lit 0, nat_lit 0, nat_lit 0, nat_lit 0, []))))) (.branch (nat_lit 50) (.branch (nat_lit 46) (.branch (nat_lit 43) (.leaf (nat_lit 21, nat_lit 42, nat_lit 0, nat_lit 0, nat_lit 0, nat_lit 0, [])) (.leaf (nat_lit 3, nat_lit 43, nat_lit 0, nat_lit 2, nat_lit 1, nat_lit 0, []))) (.branch (nat_lit 49) (.leaf (nat_lit 10, nat_lit 46, nat_lit 0, nat_lit 25, nat_lit 0, nat_lit 0, [])) (.leaf (nat_lit 1, nat_lit 49, nat_lit 4, nat_lit 0, nat_lit 0, nat_lit 0, [])))) (.branch (nat_lit 54) (.branch (nat_lit 51) (.leaf (nat_lit 1, nat_lit 50, nat_lit 4, nat_lit 0, nat_lit 0, nat_lit 0, [])) (.leaf (nat_lit 23, nat_lit 51, nat_lit 2, nat_lit 177, nat_lit 7106, nat_lit 202, []))) (.branch (nat_lit 57) (.leaf (nat_lit 23, nat_lit 54, nat_lit 2, nat_lit 250, nat_lit 7117, nat_lit 219, [])) (.branch (nat_lit 58) (.leaf (nat_lit 1, nat_lit 57, nat_lit 4, nat_lit 0, nat_lit 0, nat_lit 0, [])) (.leaf (nat_lit 14, nat_lit 58, nat_lit 11, nat_lit 35, nat_lit 20, nat_lit 6121, [])))))))) (.branch (nat_lit 93) (.branch (nat_lit 74) (.branch (nat_lit 68) (.branch (nat_lit 65) (.branch (nat_lit 64) (.leaf (nat_lit 0, nat_lit 61, nat_lit 2, nat_lit 1440, nat_lit 0, nat_lit 0, [])) (.leaf (nat_lit 1, nat_lit 64, nat_lit 4, nat_lit 0, nat_lit 0, nat_lit 0, []))) (.branch (nat_lit 66) (.leaf (nat_lit 0, nat_lit 65, nat_lit 0, nat_lit 2, nat_lit 0, nat_lit 0, [])) (.leaf (nat_lit 0, nat_lit 66, nat_lit 1, nat_lit 13, nat_lit 0, nat_lit 0, [])))) (.branch (nat_lit 72) (.branch (nat_lit 71) (.leaf (nat_lit 23, nat_lit 68, nat_lit 2, nat_lit 244, nat_lit 7129, nat_lit 220, [])) (.leaf (nat_lit 21, nat_lit 71, nat_lit 0, nat_lit 0, nat_lit 0, nat_lit 0, []))) (.branch (nat_lit 73) (.leaf (nat_lit 1, nat_lit 72, nat_lit 4, nat_lit 0, nat_lit 0, nat_lit 0, [])) (.leaf (nat_lit 1, nat_lit 73, nat_lit 4, nat_lit 0, nat_lit 0, nat_lit 0, []))))) (.branch (nat_lit 84) (.branch (nat_lit 80) (.branch (nat_lit 77) (.leaf (nat_lit 23, nat_lit 74, nat_lit 2, nat_lit 181, nat_lit 7136, nat_lit 203, [])) (.leaf (nat_lit 23, nat_lit 77, nat_lit 2, nat_lit 250, nat_lit 7117, nat_lit 219, []))) (.branch (nat_lit 81) (.leaf (nat_lit 1, nat_lit 80, nat_lit 4, nat_lit 0, nat_lit 0, nat_lit 0, [])) (.leaf (nat_lit 14, nat_lit 81, nat_lit 11, nat_lit 35, nat_lit 20, nat_lit 6121, [])))) (.branch (nat_lit 88) (.branch (nat_lit 87) (.leaf (nat_lit 0, nat_lit 84, nat_lit 2, nat_lit 1441, nat_lit 0, nat_lit 0, [])) (.leaf (nat_lit 1, nat_lit 87, nat_lit 4, nat_lit 0, nat_lit 0, nat_lit 0, []))) (.branch (nat_lit 89) (.leaf (nat_lit 0, nat_lit 88, nat_lit 0, nat_lit 1, nat_lit 0, nat_lit 0, [])) (.branch (nat_lit 90) (.leaf (nat_lit 1, nat_lit 89, nat_lit 4, nat_lit 0, nat_lit 0, nat_lit 0, [])) (.leaf (nat_lit 14, nat_lit 90, nat_lit 11, nat_lit 35, nat_lit 20, nat_lit 6121, []))))))) (.branch (nat_lit 108) (.branch (nat_lit 101) (.branch (nat_lit 97) (.branch (nat_lit 96) (.leaf (nat_lit 0, nat_lit 93, nat_lit 2, nat_lit 1440, nat_lit 0, nat_lit 0, [])) (.leaf (nat_lit 20, nat_lit 96, nat_lit 0, nat_lit 0, nat_lit 0, nat_lit 0, []))) (.branch (nat_lit 100) (.leaf (nat_lit 23, nat_lit 97, nat_lit 2, nat_lit 244, nat_lit 7129, nat_lit 220, [])) (.leaf (nat_lit 21, nat_lit 100, nat_lit 0, nat_lit 0, nat_lit 0, nat_lit 0, [])))) (.branch (nat_lit 103) (.branch (nat_lit 102) (.leaf (nat_lit 1, nat_lit 101, nat_lit 4, nat_lit 0, nat_lit 0, nat_lit 0, [])) (.leaf (nat_lit 1, nat_lit 102, nat_lit 4, nat_lit 0, nat_lit 0, nat_lit 0, []))) (.branch (nat_lit 105) (.leaf (nat_lit 0, nat_lit 103, nat_lit 1, nat_lit 59, nat_lit 0, nat_lit 0, [])) (.leaf (nat_lit 23, nat_lit 105, nat_lit 2, nat_lit 261, nat_lit 7140, nat_lit 199, []))))) (.branch (nat_lit 198) (.branch (nat_lit 112) (.branch (nat_lit 111) (.leaf (nat_lit 23, nat_lit 108, nat_lit 2, nat_lit 250, nat_lit 7117, nat_lit 219, [])) (.leaf (nat_lit 1, nat_lit 111, nat_lit 4, nat_lit 0, nat_lit 0, nat_lit 0, []))) (.branch (nat_lit 115) (.leaf (nat_lit 14, nat_lit 112, nat_lit 11, nat_lit 221, nat_lit 12, nat_lit 6113, [])) (.leaf (nat_lit 8, nat_lit 115, nat_lit 1, nat_lit 198, nat_lit 0, nat_lit 0, [])))) (.branch (nat_lit 202) (.branch (nat_lit 199) (.leaf (nat_lit 1, nat_lit 198, nat_lit 4, nat_lit 0, nat_lit 0, nat_lit 0, [])) (.leaf (nat_lit 23, nat_lit 199, nat_lit 2, nat_lit 276, nat_lit 7216, nat_lit 224, []))) (.branch (nat_lit 205) (.leaf (nat_lit 8, nat_lit 202, nat_lit 1, nat_lit 207, nat_lit 0, nat_lit 0, [])) (.branch (nat_lit 206) (.leaf (nat_lit 0, nat_lit 205, nat_lit 0, nat_lit 1, nat_lit 1, nat_lit 0, [])) (.leaf (nat_lit 24, nat_lit 206, nat_lit 1, nat_lit 0, nat_lit 0, nat_lit 0, []))))))))), [nat_lit 7081, nat_lit 1013, nat_lit 7079, nat_lit 7080])
set_option maxRecDepth 100000 in
def q_M234 : qM × List Nat := ((yX11_round, cX11_round, nat_lit 3, some .int, nat_lit 11, nat_lit 2, nat_lit 1, nat_lit 0, nat_lit 0, .branch (nat_lit 51) (.branch (nat_lit 21) (.branch (nat_lit 7) (.branch (nat_lit 2) (.branch (nat_lit 1) (.leaf (nat_lit 1, nat_lit 0, nat_lit 4, nat_lit 0, nat_lit 0, nat_lit 0, [])) (.leaf (nat_lit 0, nat_lit 1, nat_lit 0, nat_lit 0, nat_lit 0, nat_lit 0, []))) (.branch (nat_lit 5) (.leaf (nat_lit 15, nat_lit 2, nat_lit 11, nat_lit 93, nat_lit 1, nat_lit 6102, [nat_lit 0])) (.branch (nat_lit 6) (.leaf (nat_lit 1, nat_lit 5, nat_lit 4, nat_lit 0, nat_lit 0, nat_lit 0, [])) (.leaf (nat_lit 0, nat_lit 6, nat_lit 0, nat_lit 0, nat_lit 0, nat_lit 0, []))))) (.branch (nat_lit 12) (.branch (nat_lit 10) (.leaf (nat_lit 15, nat_lit 7, nat_lit 11, nat_lit 96, nat_lit 0, nat_lit 6101, [nat_lit 0])) (.branch (nat_lit 11) (.leaf (nat_lit 1, nat_lit 10, nat_lit 4, nat_lit 0, nat_lit 0, nat_lit 0, [])) (.leaf (nat_lit 1, nat_lit 11, nat_lit 0, nat_lit 1, nat_lit 0, nat_lit 0, [])))) (.branch (nat_lit 15) (.leaf (nat_lit 0, nat_lit 12, nat_lit 2, nat_lit 300, nat_lit 0, nat_lit 0, [])) (.branch (nat_lit 18) (.leaf (nat_lit 23, nat_lit 15, nat_lit 2, nat_lit 257, nat_lit 7082, nat_lit 223, [])) (.leaf (nat_lit 8, nat_lit 18, nat_lit 1, nat_lit 23, nat_lit 0, nat_lit 0, [])))))) (.branch (nat_lit 29) (.branch (nat_lit 24) (.branch (nat_lit 22) (.leaf (nat_lit 0, nat_lit 21, nat_lit 0, nat_lit 1, nat_lit 1, nat_lit 0, [])) (.branch (nat_lit 23) (.leaf (nat_lit 24, nat_lit 22, nat_lit 1, nat_lit 0, nat_lit 0, nat_lit 0, [])) (.leaf (nat_lit 1, nat_lit 23, nat_lit 4, nat_lit 0, nat_lit 0, nat_lit 0, [])))) (.branch (nat_lit 25) (.leaf (nat_lit 0, nat_lit 24, nat_lit 0, nat_lit 0, nat_lit 0, nat_lit 0, [])) (.branch (nat_lit 28) (.leaf (nat_lit 15, nat_lit 25, nat_lit 11, nat_lit 279, nat_lit 34, nat_lit 6135, [nat_lit 0])) (.leaf (nat_lit 1, nat_lit 28, nat_lit 4, nat_lit 0, nat_lit 0, nat_lit 0, []))))) (.branch (nat_lit 36) (.branch (nat_lit 32) (.leaf (nat_lit 14, nat_lit 29, nat_lit 11, nat_lit 221, nat_lit 12, nat_lit 6113, [])) (.branch (nat_lit 35) (.leaf (nat_lit 8, nat_lit 32, nat_lit 1, nat_lit 50, nat_lit 0, nat_lit 0, [])) (.leaf (nat_lit 1, nat_lit 35, nat_lit 4, nat_lit 0, nat_lit 0, nat_lit 0, [])))) (.branch (nat_lit 39) (.leaf (nat_lit 14, nat_lit 36, nat_lit 11, nat_lit 144, nat_lit 14, nat_lit 6115, [])) (.branch (nat_lit 50) (.leaf (nat_lit 8, nat_lit 39, nat_lit 0, nat_lit 50, nat_lit 0, nat_lit 0, [])) (.leaf (nat_lit 1, nat_lit 50, nat_lit 4, nat_lit 0, nat_lit 0, nat_lit 0, []))))))) (.branch (nat_lit 79) (.branch (nat_lit 67) (.branch (nat_lit 60) (.branch (nat_lit 54) (.leaf (nat_lit 23, nat_lit 51, nat_lit 2, nat_lit 276, nat_lit 7216, nat_lit 224, [])) (.branch (nat_lit 59) (.leaf (nat_lit 8, nat_lit 54, nat_lit 1, nat_lit 59, nat_lit 0, nat_lit 0, [])) (.leaf (nat_lit 1, nat_lit 59, nat_lit 4, nat_lit 0, nat_lit 0, nat_lit 0, [])))) (.branch (nat_lit 63) (.leaf (nat_lit 14, nat_lit 60, nat_lit 11, nat_lit 35, nat_lit 20, nat_lit 6121, [])) (.branch (nat_lit 66) (.leaf (nat_lit 0, nat_lit 63, nat_lit 2, nat_lit 145, nat_lit 0, nat_lit 0, [])) (.leaf (nat_lit 0, nat_lit 66, nat_lit 0, nat_lit 1, nat_lit 0, nat_lit 0, []))))) (.branch (nat_lit 72) (.branch (nat_lit 68) (.leaf (nat_lit 21, nat_lit 67, nat_lit 0, nat_lit 0, nat_lit 0, nat_lit 0, [])) (.branch (nat_lit 69) (.leaf (nat_lit 1, nat_lit 68, nat_lit 4, nat_lit 0, nat_lit 0, nat_lit 0, [])) (.leaf (nat_lit 14, nat_lit 69, nat_lit 11, nat_lit 35, nat_lit 20, nat_lit 6121, [])))) (.branch (nat_lit 75) (.leaf (nat_lit 0, nat_lit 72, nat_lit 2, nat_lit 146, nat_lit 0, nat_lit 0, [])) (.branch (nat_lit 76) (.leaf (nat_lit 1, nat_lit 75, nat_lit 4, nat_lit 0, nat_lit 0, nat_lit 0, [])) (.leaf (nat_lit 14, nat_lit 76, nat_lit 11, nat_lit 279, nat_lit 34, nat_lit 6135, [])))))) (.branch (nat_lit 86) (.branch (nat_lit 82) (.branch (nat_lit 80) (.leaf (nat_lit 21, nat_lit 79, nat_lit 0, nat_lit 0, nat_lit 0, nat_lit 0, [])) (.branch (nat_lit 81) (.leaf (nat_lit 0, nat_lit 80, nat_lit 0, nat_lit 0, nat_lit 0, nat_lit 0, [])) (.leaf (nat_lit 2, nat_lit 81, nat_lit 0, nat_lit 2, nat_lit 0, nat_lit 0, [])))) (.branch (nat_lit 83) (.leaf (nat_lit 1, nat_lit 82, nat_lit 0, nat_lit 2, nat_lit 0, nat_lit 0, [])) (.branch (nat_lit 85) (.leaf (nat_lit 0, nat_lit 83, nat_lit 1, nat_lit 7, nat_lit 0, nat_lit 0, [])) (.leaf (nat_lit 1, nat_lit 85, nat_lit 4, nat_lit 0, nat_lit 0, nat_lit 0, []))))) (.branch (nat_lit 119) (.branch (nat_lit 89) (.leaf (nat_lit 14, nat_lit 86, nat_lit 11, nat_lit 279, nat_lit 34, nat_lit 6135, [])) (.branch (nat_lit 90) (.leaf (nat_lit 4, nat_lit 89, nat_lit 2, nat_lit 0, nat_lit 0, nat_lit 0, [])) (.leaf (nat_lit 9, nat_lit 90, nat_lit 3, nat_lit 119, nat_lit 0, nat_lit 0, [])))) (.branch (nat_lit 120) (.leaf (nat_lit 1, nat_lit 119, nat_lit 4, nat_lit 0, nat_lit 0, nat_lit 0, [])) (.branch (nat_lit 123) (.leaf (nat_lit 14, nat_lit 120, nat_lit 11, nat_lit 279, nat_lit 34, nat_lit 6135, [])) (.leaf (nat_lit 24, nat_lit 123, nat_lit 1, nat_lit 0, nat_lit 0, nat_lit 0, [])))))))), [nat_lit 7223, nat_lit 1013, nat_lit 7221, nat_lit 7222])
end
section
-- 14.tab1: methods (printed by wip/p1/gen2.py)
set_option maxRecDepth 100000 in
def q_M235 : qM × List Nat := ((yX11_stones, cX11_stones, nat_lit 1, some .int, nat_lit 11, nat_lit 2, nat_lit 0, nat_lit 0, nat_lit 0, .branch (nat_lit 2) (.branch (nat_lit 1) (.leaf (nat_lit 1, nat_lit 0, nat_lit 4, nat_lit 0, nat_lit 0, nat_lit 0, [])) (.leaf (nat_lit 0, nat_lit 1, nat_lit 0, nat_lit 0, nat_lit 0, nat_lit 0, []))) (.branch (nat_lit 5) (.leaf (nat_lit 23, nat_lit 2, nat_lit 2, nat_lit 254, nat_lit 7208, nat_lit 226, [])) (.leaf (nat_lit 24, nat_lit 5, nat_lit 1, nat_lit 0, nat_lit 0, nat_lit 0, [])))), [nat_lit 7239, nat_lit 1013, nat_lit 7238, nat_lit 84])
set_option maxRecDepth 100000 in
def q_M236 : qM × List Nat := ((yX11_isStone, cX11_isStone, nat_lit 2, some .boolean, nat_lit 11, nat_lit 2, nat_lit 1, nat_lit 0, nat_lit 0, .branch (nat_lit 7) (.branch (nat_lit 2) (.branch (nat_lit 1) (.leaf (nat_lit 1, nat_lit 0, nat_lit 0, nat_lit 1, nat_lit 0, nat_lit 0, [])) (.leaf (nat_lit 6, nat_lit 1, nat_lit 0, nat_lit 0, nat_lit 0, nat_lit 0, []))) (.branch (nat_lit 3) (.leaf (nat_lit 0, nat_lit 2, nat_lit 3, nat_lit 0, nat_lit 0, nat_lit 0, [])) (.branch (nat_lit 4) (.leaf (nat_lit 1, nat_lit 3, nat_lit 4, nat_lit 0, nat_lit 0, nat_lit 0, [])) (.leaf (nat_lit 23, nat_lit 4, nat_lit 2, nat_lit 288, nat_lit 7236, nat_lit 235, []))))) (.branch (nat_lit 9) (.branch (nat_lit 8) (.leaf (nat_lit 0, nat_lit 7, nat_lit 0, nat_lit 1, nat_lit 0, nat_lit 0, [])) (.leaf (nat_lit 4, nat_lit 8, nat_lit 1, nat_lit 0, nat_lit 0, nat_lit 0, []))) (.branch (nat_lit 10) (.leaf (nat_lit 6, nat_lit 9, nat_lit 0, nat_lit 0, nat_lit 0, nat_lit 0, [])) (.branch (nat_lit 13) (.leaf (nat_lit 23, nat_lit 10, nat_lit 0, nat_lit 128, nat_lit 7133, nat_lit 183, [])) (.leaf (nat_lit 24, nat_lit 13, nat_lit 1, nat_lit 0, nat_lit 0, nat_lit 0, [])))))), [nat_lit 8015, nat_lit 1013, nat_lit 8014, nat_lit 87])
set_option maxRecDepth 100000 in
def q_M243 : qM × List Nat := ((yX11_countAll, cX11_countAll, nat_lit 6, none, nat_lit 11, nat_lit 2, nat_lit 1, nat_lit 0, nat_lit 0, .branch (nat_lit 9) (.branch (nat_lit 5) (.branch (nat_lit 1) (.leaf (nat_lit 1, nat_lit 0, nat_lit 4, nat_lit 0, nat_lit 0, nat_lit 0, [])) (.branch (nat_lit 4) (.leaf (nat_lit 14, nat_lit 1, nat_lit 11, nat_lit 35, nat_lit 20, nat_lit 6121, [])) (.leaf (nat_lit 0, nat_lit 4, nat_lit 0, nat_lit 1, nat_lit 0, nat_lit 0, [])))) (.branch (nat_lit 7) (.branch (nat_lit 6) (.leaf (nat_lit 20, nat_lit 5, nat_lit 0, nat_lit 0, nat_lit 0, nat_lit 0, [])) (.leaf (nat_lit 2, nat_lit 6, nat_lit 0, nat_lit 2, nat_lit 0, nat_lit 0, []))) (.branch (nat_lit 8) (.leaf (nat_lit 0, nat_lit 7, nat_lit 0, nat_lit 0, nat_lit 0, nat_lit 0, [])) (.leaf (nat_lit 2, nat_lit 8, nat_lit 0, nat_lit 3, nat_lit 0, nat_lit 0, []))))) (.branch (nat_lit 14) (.branch (nat_lit 10) (.leaf (nat_lit 0, nat_lit 9, nat_lit 0, nat_lit 0, nat_lit 0, nat_lit 0, [])) (.branch (nat_lit 12) (.leaf (nat_lit 2, nat_lit 10, nat_lit 1, nat_lit 4, nat_lit 0, nat_lit 0, [])) (.leaf (nat_lit 1, nat_lit 12, nat_lit 1, nat_lit 4, nat_lit 0, nat_lit 0, [])))) (.branch (nat_lit 18) (.branch (nat_lit 15) (.leaf (nat_lit 1, nat_lit 14, nat_lit 4, nat_lit 0, nat_lit 0, nat_lit 0, [])) (.leaf (nat_lit 23, nat_lit 15, nat_lit 2, nat_lit 288, nat_lit 7236, nat_lit 235, []))) (.branch (nat_lit 93) (.leaf (nat_lit 9, nat_lit 18, nat_lit 3, nat_lit 93, nat_lit 0, nat_lit 0, [])) (.leaf (nat_lit 24, nat_lit 93, nat_lit 0, nat_lit 0, nat_lit 0, nat_lit 0, [])))))), [nat_lit 8039, nat_lit 1013, nat_lit 8038, nat_lit 93])
set_option maxRecDepth 100000 in
def q_M247 : qM × List Nat := ((yX11_noted, cX11_noted, nat_lit 3, some .int, nat_lit 11, nat_lit 2, nat_lit 0, nat_lit 0, nat_lit 0, .branch (nat_lit 17) (.branch (nat_lit 5) (.branch (nat_lit 2) (.branch (nat_lit 1) (.leaf (nat_lit 0, nat_lit 0, nat_lit 0, nat_lit 0, nat_lit 0, nat_lit 0, [])) (.leaf (nat_lit 2, nat_lit 1, nat_lit 0, nat_lit 1, nat_lit 0, nat_lit 0, []))) (.branch (nat_lit 3) (.leaf (nat_lit 0, nat_lit 2, nat_lit 0, nat_lit 0, nat_lit 0, nat_lit 0, [])) (.branch (nat_lit 4) (.leaf (nat_lit 2, nat_lit 3, nat_lit 0, nat_lit 2, nat_lit 0, nat_lit 0, [])) (.leaf (nat_lit 1, nat_lit 4, nat_lit 0, nat_lit 2, nat_lit 0, nat_lit 0, []))))) (.branch (nat_lit 11) (.branch (nat_lit 7) (.leaf (nat_lit 0, nat_lit 5, nat_lit 1, nat_lit 96, nat_lit 0, nat_lit 0, [])) (.branch (nat_lit 10) (.leaf (nat_lit 9, nat_lit 7, nat_lit 3, nat_lit 36, nat_lit 0, nat_lit 0, [])) (.leaf (nat_lit 1, nat_lit 10, nat_lit 0, nat_lit 1, nat_lit 0, nat_lit 0, [])))) (.branch (nat_lit 12) (.leaf (nat_lit 1, nat_lit 11, nat_lit 4, nat_lit 0, nat_lit 0, nat_lit 0, [])) (.branch (nat_lit 15) (.leaf (nat_lit 14, nat_lit 12, nat_lit 11, nat_lit 35, nat_lit 20, nat_lit 6121, [])) (.leaf (nat_lit 0, nat_lit 15, nat_lit 1, nat_lit 49, nat_lit 0, nat_lit 0, [])))))) (.branch (nat_lit 28) (.branch (nat_lit 19) (.branch (nat_lit 18) (.leaf (nat_lit 1, nat_lit 17, nat_lit 0, nat_lit 2, nat_lit 0, nat_lit 0, [])) (.leaf (nat_lit 4, nat_lit 18, nat_lit 0, nat_lit 0, nat_lit 0, nat_lit 0, []))) (.branch (nat_lit 20) (.leaf (nat_lit 20, nat_lit 19, nat_lit 0, nat_lit 0, nat_lit 0, nat_lit 0, [])) (.branch (nat_lit 27) (.leaf (nat_lit 8, nat_lit 20, nat_lit 5, nat_lit 27, nat_lit 0, nat_lit 0, [])) (.leaf (nat_lit 0, nat_lit 27, nat_lit 0, nat_lit 0, nat_lit 0, nat_lit 0, []))))) (.branch (nat_lit 33) (.branch (nat_lit 29) (.leaf (nat_lit 4, nat_lit 28, nat_lit 0, nat_lit 0, nat_lit 0, nat_lit 0, [])) (.branch (nat_lit 30) (.leaf (nat_lit 2, nat_lit 29, nat_lit 0, nat_lit 1, nat_lit 0, nat_lit 0, [])) (.leaf (nat_lit 3, nat_lit 30, nat_lit 0, nat_lit 2, nat_lit 1, nat_lit 0, [])))) (.branch (nat_lit 36) (.leaf (nat_lit 10, nat_lit 33, nat_lit 0, nat_lit 4, nat_lit 0, nat_lit 0, [])) (.branch (nat_lit 37) (.leaf (nat_lit 1, nat_lit 36, nat_lit 0, nat_lit 1, nat_lit 0, nat_lit 0, [])) (.leaf (nat_lit 24, nat_lit 37, nat_lit 1, nat_lit 0, nat_lit 0, nat_lit 0, []))))))), [nat_lit 8003, nat_lit 1013, nat_lit 8002, nat_lit 85])
set_option maxRecDepth 100000 in
def q_M248 : qM × List Nat := ((yX11_many, cX11_many, nat_lit 2, some .int, nat_lit 11, nat_lit 2, nat_lit 1, nat_lit 0, nat_lit 0, .branch (nat_lit 86) (.branch (nat_lit 69) (.branch (nat_lit 10) (.branch (nat_lit 5) (.branch (nat_lit 1) (.leaf (nat_lit 1, nat_lit 0, nat_lit 4, nat_lit 0, nat_lit 0, nat_lit 0, [])) (.branch (nat_lit 2) (.leaf (nat_lit 0, nat_lit 1, nat_lit 0, nat_lit 0, nat_lit 0, nat_lit 0, [])) (.leaf (nat_lit 15, nat_lit 2, nat_lit 11, nat_lit 93, nat_lit 1, nat_lit 6102, [nat_lit 0])))) (.branch (nat_lit 6) (.leaf (nat_lit 1, nat_lit 5, nat_lit 4, nat_lit 0, nat_lit 0, nat_lit 0, [])) (.branch (nat_lit 7) (.leaf (nat_lit 0, nat_lit 6, nat_lit 0, nat_lit 0, nat_lit 0, nat_lit 0, [])) (.leaf (nat_lit 15, nat_lit 7, nat_lit 11, nat_lit 96, nat_lit 0, nat_lit 6101, [nat_lit 0]))))) (.branch (nat_lit 61) (.branch (nat_lit 11) (.leaf (nat_lit 1, nat_lit 10, nat_lit 0, nat_lit 1, nat_lit 0, nat_lit 0, [])) (.branch (nat_lit 60) (.leaf (nat_lit 12, nat_lit 11, nat_lit 0, nat_lit 120, nat_lit 49, nat_lit 0, [nat_lit 60, nat_lit 65, nat_lit 72, nat_lit 79, nat_lit 86, nat_lit 93, nat_lit 100, nat_lit 107, nat_lit 115])) (.leaf (nat_lit 1, nat_lit 60, nat_lit 4, nat_lit 0, nat_lit 0, nat_lit 0, [])))) (.branch (nat_lit 65) (.branch (nat_lit 64) (.leaf (nat_lit 23, nat_lit 61, nat_lit 2, nat_lit 288, nat_lit 7236, nat_lit 235, [])) (.leaf (nat_lit 24, nat_lit 64, nat_lit 1, nat_lit 0, nat_lit 0, nat_lit 0, []))) (.branch (nat_lit 66) (.leaf (nat_lit 1, nat_lit 65, nat_lit 4, nat_lit 0, nat_lit 0, nat_lit 0, [])) (.leaf (nat_lit 14, nat_lit 66, nat_lit 11, nat_lit 35, nat_lit 20, nat_lit 6121, [])))))) (.branch (nat_lit 77) (.branch (nat_lit 72) (.branch (nat_lit 70) (.leaf (nat_lit 0, nat_lit 69, nat_lit 0, nat_lit 2, nat_lit 0, nat_lit 0, [])) (.branch (nat_lit 71) (.leaf (nat_lit 20, nat_lit 70, nat_lit 0, nat_lit 0, nat_lit 0, nat_lit 0, [])) (.leaf (nat_lit 24, nat_lit 71, nat_lit 1, nat_lit 0, nat_lit 0, nat_lit 0, [])))) (.branch (nat_lit 73) (.leaf (nat_lit 1, nat_lit 72, nat_lit 4, nat_lit 0, nat_lit 0, nat_lit 0, [])) (.branch (nat_lit 76) (.leaf (nat_lit 14, nat_lit 73, nat_lit 11, nat_lit 35, nat_lit 20, nat_lit 6121, [])) (.leaf (nat_lit 0, nat_lit 76, nat_lit 0, nat_lit 3, nat_lit 0, nat_lit 0, []))))) (.branch (nat_lit 80) (.branch (nat_lit 78) (.leaf (nat_lit 20, nat_lit 77, nat_lit 0, nat_lit 0, nat_lit 0, nat_lit 0, [])) (.branch (nat_lit 79) (.leaf (nat_lit 24, nat_lit 78, nat_lit 1, nat_lit 0, nat_lit 0, nat_lit 0, [])) (.leaf (nat_lit 1, nat_lit 79, nat_lit 4, nat_lit 0, nat_lit 0, nat_lit 0, [])))) (.branch (nat_lit 84) (.branch (nat_lit 83) (.leaf (nat_lit 14, nat_lit 80, nat_lit 11, nat_lit 35, nat_lit 20, nat_lit 6121, [])) (.leaf (nat_lit 0, nat_lit 83, nat_lit 0, nat_lit 4, nat_lit 0, nat_lit 0, []))) (.branch (nat_lit 85) (.leaf (nat_lit 20, nat_lit 84, nat_lit 0, nat_lit 0, nat_lit 0, nat_lit 0, [])) (.leaf (nat_lit 24, nat_lit 85, nat_lit 1, nat_lit 0, nat_lit 0, nat_lit 0, []))))))) (.branch (nat_lit 105) (.branch (nat_lit 94) (.branch (nat_lit 91) (.branch (nat_lit 87) (.leaf (nat_lit 1, nat_lit 86, nat_lit 4, nat_lit 0, nat_lit 0, nat_lit 0, [])) (.branch (nat_lit 90) (.leaf (nat_lit 14, nat_lit 87, nat_lit 11, nat_lit 35, nat_lit 20, nat_lit 6121, [])) (.leaf (nat_lit 0, nat_lit 90, nat_lit 0, nat_lit 5, nat_lit 0, nat_lit 0, [])))) (.branch (nat_lit 92) (.leaf (nat_lit 20, nat_lit 91, nat_lit 0, nat_lit 0, nat_lit 0, nat_lit 0, [])) (.branch (nat_lit 93) (.leaf (nat_lit 24, nat_lit 92, nat_lit 1, nat_lit 0, nat_lit 0, nat_lit 0, [])) (.leaf (nat_lit 1, nat_lit 93, nat_lit 4, nat_lit 0, nat_lit 0, nat_lit 0, []))))) (.branch (nat_lit 99) (.branch (nat_lit 97) (.leaf (nat_lit 14, nat_lit 94, nat_lit 11, nat_lit 35, nat_lit 20, nat_lit 6121, [])) (.branch (nat_lit 98) (.leaf (nat_lit 0, nat_lit 97, nat_lit 0, nat_lit 0, nat_lit 0, nat_lit 0, [])) (.leaf (nat_lit 20, nat_lit 98, nat_lit 0, nat_lit 0, nat_lit 0, nat_lit 0, [])))) (.branch (nat_lit 101) (.branch (nat_lit 100) (.leaf (nat_lit 24, nat_lit 99, nat_lit 1, nat_lit 0, nat_lit 0, nat_lit 0, [])) (.leaf (nat_lit 1, nat_lit 100, nat_lit 4, nat_lit 0, nat_lit 0, nat_lit 0, []))) (.branch (nat_lit 104) (.leaf (nat_lit 14, nat_lit 101, nat_lit 11, nat_lit 35, nat_lit 20, nat_lit 6121, [])) (.leaf (nat_lit 0, nat_lit 104, nat_lit 0, nat_lit 1, nat_lit 0, nat_lit 0, [])))))) (.branch (nat_lit 115) (.branch (nat_lit 108) (.branch (nat_lit 106) (.leaf (nat_lit 20, nat_lit 105, nat_lit 0, nat_lit 0, nat_lit 0, nat_lit 0, [])) (.branch (nat_lit 107) (.leaf (nat_lit 24, nat_lit 106, nat_lit 1, nat_lit 0, nat_lit 0, nat_lit 0, [])) (.leaf (nat_lit 1, nat_lit 107, nat_lit 4, nat_lit 0, nat_lit 0, nat_lit 0, [])))) (.branch (nat_lit 113) (.branch (nat_lit 111) (.leaf (nat_lit 14, nat_lit 108, nat_lit 11, nat_lit 35, nat_lit 20, nat_lit 6121, [])) (.leaf (nat_lit 0, nat_lit 111, nat_lit 1, nat_lit 6, nat_lit 0, nat_lit 0, []))) (.branch (nat_lit 114) (.leaf (nat_lit 20, nat_lit 113, nat_lit 0, nat_lit 0, nat_lit 0, nat_lit 0, [])) (.leaf (nat_lit 24, nat_lit 114, nat_lit 1, nat_lit 0, nat_lit 0, nat_lit 0, []))))) (.branch (nat_lit 120) (.branch (nat_lit 116) (.leaf (nat_lit 1, nat_lit 115, nat_lit 4, nat_lit 0, nat_lit 0, nat_lit 0, [])) (.branch (nat_lit 119) (.leaf (nat_lit 23, nat_lit 116, nat_lit 2, nat_lit 309, nat_lit 8000, nat_lit 247, [])) (.leaf (nat_lit 24, nat_lit 119, nat_lit 1, nat_lit 0, nat_lit 0, nat_lit 0, [])))) (.branch (nat_lit 122) (.branch (nat_lit 121) (.leaf (nat_lit 1, nat_lit 120, nat_lit 4, nat_lit 0, nat_lit 0, nat_lit 0, [])) (.leaf (nat_lit 0, nat_lit 121, nat_lit 0, nat_lit 5, nat_lit 0, nat_lit 0, []))) (.branch (nat_lit 125) (.leaf (nat_lit 23, nat_lit 122, nat_lit 2, nat_lit 312, nat_lit 8004, nat_lit 181, [])) (.leaf (nat_lit 24, nat_lit 125, nat_lit 1, nat_lit 0, nat_lit 0, nat_lit 0, [])))))))), [nat_lit 7235, nat_lit 1013, nat_lit 7233, nat_lit 7234])
set_option maxRecDepth 100000 in
def q_M250 : qM × List Nat := ((yX11_stone, cX11_stone, nat_lit 3, some .int, nat_lit 11, nat_lit 2, nat_lit 2, nat_lit 0, nat_lit 0, .branch (nat_lit 11) (.branch (nat_lit 5) (.branch (nat_lit 1) (.leaf (nat_lit 1, nat_lit 0, nat_lit 4, nat_lit 0, nat_lit 0, nat_lit 0, [])) (.branch (nat_lit 2) (.leaf (nat_lit 0, nat_lit 1, nat_lit 0, nat_lit 0, nat_lit 0, nat_lit 0, [])) (.leaf (nat_lit 15, nat_lit 2, nat_lit 11, nat_lit 93, nat_lit 1, nat_lit 6102, [nat_lit 0])))) (.branch (nat_lit 7) (.branch (nat_lit 6) (.leaf (nat_lit 1, nat_lit 5, nat_lit 4, nat_lit 0, nat_lit 0, nat_lit 0, [])) (.leaf (nat_lit 0, nat_lit 6, nat_lit 0, nat_lit 0, nat_lit 0, nat_lit 0, []))) (.branch (nat_lit 10) (.leaf (nat_lit 15, nat_lit 7, nat_lit 11, nat_lit 96, nat_lit 0, nat_lit 6101, [nat_lit 0])) (.leaf (nat_lit 1, nat_lit 10, nat_lit 4, nat_lit 0, nat_lit 0, nat_lit 0, []))))) (.branch (nat_lit 18) (.branch (nat_lit 12) (.leaf (nat_lit 1, nat_lit 11, nat_lit 0, nat_lit 1, nat_lit 0, nat_lit 0, [])) (.branch (nat_lit 15) (.leaf (nat_lit 23, nat_lit 12, nat_lit 2, nat_lit 315, nat_lit 8012, nat_lit 236, [])) (.leaf (nat_lit 8, nat_lit 15, nat_lit 1, nat_lit 24, nat_lit 0, nat_lit 0, [])))) (.branch (nat_lit 20) (.branch (nat_lit 19) (.leaf (nat_lit 1, nat_lit 18, nat_lit 4, nat_lit 0, nat_lit 0, nat_lit 0, [])) (.leaf (nat_lit 0, nat_lit 19, nat_lit 0, nat_lit 2, nat_lit 0, nat_lit 0, []))) (.branch (nat_lit 23) (.leaf (nat_lit 23, nat_lit 20, nat_lit 2, nat_lit 312, nat_lit 8004, nat_lit 181, [])) (.leaf (nat_lit 24, nat_lit 23, nat_lit 1, nat_lit 0, nat_lit 0, nat_lit 0, [])))))), [nat_lit 8011, nat_lit 1013, nat_lit 8009, nat_lit 8010])
set_option maxRecDepth 100000 in
def q_M251 : qM × List Nat := ((yX11_mason, cX11_mason, nat_lit 5, some .int, nat_lit 11, nat_lit 2, nat_lit 2, nat_lit 0, nat_lit 0, .branch (nat_lit 17) (.branch (nat_lit 7) (.branch (nat_lit 2) (.branch (nat_lit 1) (.leaf (nat_lit 1, nat_lit 0, nat_lit 4, nat_lit 0, nat_lit 0, nat_lit 0, [])) (.leaf (nat_lit 0, nat_lit 1, nat_lit 0, nat_lit 0, nat_lit 0, nat_lit 0, []))) (.branch (nat_lit 5) (.leaf (nat_lit 15, nat_lit 2, nat_lit 11, nat_lit 93, nat_lit 1, nat_lit 6102, [nat_lit 0])) (.branch (nat_lit 6) (.leaf (nat_lit 1, nat_lit 5, nat_lit 4, nat_lit 0, nat_lit 0, nat_lit 0, [])) (.leaf (nat_lit 0, nat_lit 6, nat_lit 0, nat_lit 0, nat_lit 0, nat_lit 0, []))))) (.branch (nat_lit 12) (.branch (nat_lit 10) (.leaf (nat_lit 15, nat_lit 7, nat_lit 11, nat_lit 96, nat_lit 0, nat_lit 6101, [nat_lit 0])) (.branch (nat_lit 11) (.leaf (nat_lit 1, nat_lit 10, nat_lit 0, nat_lit 1, nat_lit 0, nat_lit 0, [])) (.leaf (nat_lit 6, nat_lit 11, nat_lit 0, nat_lit 0, nat_lit 0, nat_lit 0, [])))) (.branch (nat_lit 13) (.leaf (nat_lit 0, nat_lit 12, nat_lit 3, nat_lit 0, nat_lit 0, nat_lit 0, [])) (.branch (nat_lit 14) (.leaf (nat_lit 1, nat_lit 13, nat_lit 4, nat_lit 0, nat_lit 0, nat_lit 0, [])) (.leaf (nat_lit 14, nat_lit 14, nat_lit 11, nat_lit 35, nat_lit 20, nat_lit 6121, [])))))) (.branch (nat_lit 22) (.branch (nat_lit 19) (.branch (nat_lit 18) (.leaf (nat_lit 0, nat_lit 17, nat_lit 0, nat_lit 3, nat_lit 0, nat_lit 0, [])) (.leaf (nat_lit 20, nat_lit 18, nat_lit 0, nat_lit 0, nat_lit 0, nat_lit 0, []))) (.branch (nat_lit 20) (.leaf (nat_lit 0, nat_lit 19, nat_lit 0, nat_lit 1, nat_lit 0, nat_lit 0, [])) (.branch (nat_lit 21) (.leaf (nat_lit 4, nat_lit 20, nat_lit 1, nat_lit 0, nat_lit 0, nat_lit 0, [])) (.leaf (nat_lit 6, nat_lit 21, nat_lit 0, nat_lit 0, nat_lit 0, nat_lit 0, []))))) (.branch (nat_lit 29) (.branch (nat_lit 25) (.leaf (nat_lit 23, nat_lit 22, nat_lit 0, nat_lit 128, nat_lit 7133, nat_lit 183, [])) (.branch (nat_lit 28) (.leaf (nat_lit 8, nat_lit 25, nat_lit 1, nat_lit 34, nat_lit 0, nat_lit 0, [])) (.leaf (nat_lit 1, nat_lit 28, nat_lit 4, nat_lit 0, nat_lit 0, nat_lit 0, [])))) (.branch (nat_lit 30) (.leaf (nat_lit 0, nat_lit 29, nat_lit 0, nat_lit 2, nat_lit 0, nat_lit 0, [])) (.branch (nat_lit 33) (.leaf (nat_lit 23, nat_lit 30, nat_lit 2, nat_lit 312, nat_lit 8004, nat_lit 181, [])) (.leaf (nat_lit 24, nat_lit 33, nat_lit 1, nat_lit 0, nat_lit 0, nat_lit 0, []))))))), [nat_lit 8059, nat_lit 1013, nat_lit 8057, nat_lit 8058])
set_option maxRecDepth 100000 in
def q_M252 : qM × List Nat := ((yX11_hollows, cX11_hollows, nat_lit 5, some .int, nat_lit 11, nat_lit 2, nat_lit 2, nat_lit 0, nat_lit 0, .branch (nat_lit 11) (.branch (nat_lit 5) (.branch (nat_lit 1) (.leaf (nat_lit 1, nat_lit 0, nat_lit 4, nat_lit 0, nat_lit 0, nat_lit 0, [])) (.branch (nat_lit 2) (.leaf (nat_lit 0, nat_lit 1, nat_lit 0, nat_lit 0, nat_lit 0, nat_lit 0, [])) (.leaf (nat_lit 15, nat_lit 2, nat_lit 11, nat_lit 93, nat_lit 1, nat_lit 6102, [nat_lit 0])))) (.branch (nat_lit 7) (.branch (nat_lit 6) (.leaf (nat_lit 1, nat_lit 5, nat_lit 4, nat_lit 0, nat_lit 0, nat_lit 0, [])) (.leaf (nat_lit 0, nat_lit 6, nat_lit 0, nat_lit 0, nat_lit 0, nat_lit 0, []))) (.branch (nat_lit 10) (.leaf (nat_lit 15, nat_lit 7, nat_lit 11, nat_lit 96, nat_lit 0, nat_lit 6101, [nat_lit 0])) (.leaf (nat_lit 1, nat_lit 10, nat_lit 4, nat_lit 0, nat_lit 0, nat_lit 0, []))))) (.branch (nat_lit 26) (.branch (nat_lit 12) (.leaf (nat_lit 1, nat_lit 11, nat_lit 0, nat_lit 1, nat_lit 0, nat_lit 0, [])) (.branch (nat_lit 15) (.leaf (nat_lit 23, nat_lit 12, nat_lit 2, nat_lit 315, nat_lit 8012, nat_lit 236, [])) (.leaf (nat_lit 8, nat_lit 15, nat_lit 0, nat_lit 26, nat_lit 0, nat_lit 0, [])))) (.branch (nat_lit 28) (.branch (nat_lit 27) (.leaf (nat_lit 1, nat_lit 26, nat_lit 4, nat_lit 0, nat_lit 0, nat_lit 0, [])) (.leaf (nat_lit 0, nat_lit 27, nat_lit 0, nat_lit 2, nat_lit 0, nat_lit 0, []))) (.branch (nat_lit 31) (.leaf (nat_lit 23, nat_lit 28, nat_lit 2, nat_lit 312, nat_lit 8004, nat_lit 181, [])) (.leaf (nat_lit 24, nat_lit 31, nat_lit 1, nat_lit 0, nat_lit 0, nat_lit 0, [])))))), [nat_lit 8067, nat_lit 1013, nat_lit 8065, nat_lit 8066])
set_option maxRecDepth 100000 in
def q_M253 : qM × List Nat := ((yX11_hollowAt, cX11_hollowAt, nat_lit 4, some .int, nat_lit 11, nat_lit 2, nat_lit 1, nat_lit 0, nat_lit 0, .branch (nat_lit 16) (.branch (nat_lit 7) (.branch (nat_lit 2) (.branch (nat_lit 1) (.leaf (nat_lit 1, nat_lit 0, nat_lit 4, nat_lit 0, nat_lit 0, nat_lit 0, [])) (.leaf (nat_lit 0, nat_lit 1, nat_lit 0, nat_lit 0, nat_lit 0, nat_lit 0, []))) (.branch (nat_lit 5) (.leaf (nat_lit 15, nat_lit 2, nat_lit 11, nat_lit 93, nat_lit 1, nat_lit 6102, [nat_lit 0])) (.branch (nat_lit 6) (.leaf (nat_lit 1, nat_lit 5, nat_lit 4, nat_lit 0, nat_lit 0, nat_lit 0, [])) (.leaf (nat_lit 0, nat_lit 6, nat_lit 0, nat_lit 0, nat_lit 0, nat_lit 0, []))))) (.branch (nat_lit 11) (.branch (nat_lit 10) (.leaf (nat_lit 15, nat_lit 7, nat_lit 11, nat_lit 96, nat_lit 0, nat_lit 6101, [nat_lit 0])) (.leaf (nat_lit 1, nat_lit 10, nat_lit 4, nat_lit 0, nat_lit 0, nat_lit 0, []))) (.branch (nat_lit 12) (.leaf (nat_lit 0, nat_lit 11, nat_lit 0, nat_lit 1, nat_lit 0, nat_lit 0, [])) (.branch (nat_lit 15) (.leaf (nat_lit 23, nat_lit 12, nat_lit 2, nat_lit 303, nat_lit 8036, nat_lit 243, [])) (.leaf (nat_lit 0, nat_lit 15, nat_lit 0, nat_lit 0, nat_lit 0, nat_lit 0, [])))))) (.branch (nat_lit 21) (.branch (nat_lit 18) (.branch (nat_lit 17) (.leaf (nat_lit 2, nat_lit 16, nat_lit 0, nat_lit 2, nat_lit 0, nat_lit 0, [])) (.leaf (nat_lit 0, nat_lit 17, nat_lit 0, nat_lit 0, nat_lit 0, nat_lit 0, []))) (.branch (nat_lit 19) (.leaf (nat_lit 2, nat_lit 18, nat_lit 0, nat_lit 3, nat_lit 0, nat_lit 0, [])) (.branch (nat_lit 20) (.leaf (nat_lit 1, nat_lit 19, nat_lit 0, nat_lit 3, nat_lit 0, nat_lit 0, [])) (.leaf (nat_lit 1, nat_lit 20, nat_lit 4, nat_lit 0, nat_lit 0, nat_lit 0, []))))) (.branch (nat_lit 62) (.branch (nat_lit 24) (.leaf (nat_lit 23, nat_lit 21, nat_lit 2, nat_lit 288, nat_lit 7236, nat_lit 235, [])) (.branch (nat_lit 61) (.leaf (nat_lit 9, nat_lit 24, nat_lit 3, nat_lit 61, nat_lit 0, nat_lit 0, [])) (.leaf (nat_lit 1, nat_lit 61, nat_lit 4, nat_lit 0, nat_lit 0, nat_lit 0, [])))) (.branch (nat_lit 64) (.leaf (nat_lit 0, nat_lit 62, nat_lit 1, nat_lit 8, nat_lit 0, nat_lit 0, [])) (.branch (nat_lit 67) (.leaf (nat_lit 23, nat_lit 64, nat_lit 2, nat_lit 312, nat_lit 8004, nat_lit 181, [])) (.leaf (nat_lit 24, nat_lit 67, nat_lit 1, nat_lit 0, nat_lit 0, nat_lit 0, []))))))), [nat_lit 8071, nat_lit 1013, nat_lit 8069, nat_lit 8070])
set_option maxRecDepth 100000 in
def q_M254 : qM × List Nat := ((yX11_nextHollow, cX11_nextHollow, nat_lit 3, some .int, nat_lit 11, nat_lit 2, nat_lit 1, nat_lit 0, nat_lit 0, .branch (nat_lit 11) (.branch (nat_lit 5) (.branch (nat_lit 1) (.leaf (nat_lit 1, nat_lit 0, nat_lit 4, nat_lit 0, nat_lit 0, nat_lit 0, [])) (.branch (nat_lit 2) (.leaf (nat_lit 0, nat_lit 1, nat_lit 0, nat_lit 0, nat_lit 0, nat_lit 0, [])) (.leaf (nat_lit 15, nat_lit 2, nat_lit 11, nat_lit 93, nat_lit 1, nat_lit 6102, [nat_lit 0])))) (.branch (nat_lit 7) (.branch (nat_lit 6) (.leaf (nat_lit 1, nat_lit 5, nat_lit 4, nat_lit 0, nat_lit 0, nat_lit 0, [])) (.leaf (nat_lit 0, nat_lit 6, nat_lit 0, nat_lit 0, nat_lit 0, nat_lit 0, []))) (.branch (nat_lit 10) (.leaf (nat_lit 15, nat_lit 7, nat_lit 11, nat_lit 96, nat_lit 0, nat_lit 6101, [nat_lit 0])) (.leaf (nat_lit 1, nat_lit 10, nat_lit 4, nat_lit 0, nat_lit 0, nat_lit 0, []))))) (.branch (nat_lit 18) (.branch (nat_lit 12) (.leaf (nat_lit 1, nat_lit 11, nat_lit 0, nat_lit 1, nat_lit 0, nat_lit 0, [])) (.branch (nat_lit 15) (.leaf (nat_lit 23, nat_lit 12, nat_lit 2, nat_lit 315, nat_lit 8012, nat_lit 236, [])) (.leaf (nat_lit 8, nat_lit 15, nat_lit 1, nat_lit 24, nat_lit 0, nat_lit 0, [])))) (.branch (nat_lit 20) (.branch (nat_lit 19) (.leaf (nat_lit 1, nat_lit 18, nat_lit 4, nat_lit 0, nat_lit 0, nat_lit 0, [])) (.leaf (nat_lit 0, nat_lit 19, nat_lit 0, nat_lit 2, nat_lit 0, nat_lit 0, []))) (.branch (nat_lit 23) (.leaf (nat_lit 23, nat_lit 20, nat_lit 2, nat_lit 312, nat_lit 8004, nat_lit 181, [])) (.leaf (nat_lit 24, nat_lit 23, nat_lit 1, nat_lit 0, nat_lit 0, nat_lit 0, [])))))), [nat_lit 8075, nat_lit 1013, nat_lit 8073, nat_lit 8074])
set_option maxRecDepth 100000 in
def q_M255 : qM × List Nat := ((yX11_gap, cX11_gap, nat_lit 4, some .int, nat_lit 11, nat_lit 2, nat_lit 0, nat_lit 0, nat_lit 0, .branch (nat_lit 16) (.branch (nat_lit 7) (.branch (nat_lit 2) (.branch (nat_lit 1) (.leaf (nat_lit 1, nat_lit 0, nat_lit 4, nat_lit 0, nat_lit 0, nat_lit 0, [])) (.leaf (nat_lit 0, nat_lit 1, nat_lit 0, nat_lit 0, nat_lit 0, nat_lit 0, []))) (.branch (nat_lit 5) (.leaf (nat_lit 15, nat_lit 2, nat_lit 11, nat_lit 93, nat_lit 1, nat_lit 6102, [nat_lit 0])) (.branch (nat_lit 6) (.leaf (nat_lit 1, nat_lit 5, nat_lit 4, nat_lit 0, nat_lit 0, nat_lit 0, [])) (.leaf (nat_lit 0, nat_lit 6, nat_lit 0, nat_lit 0, nat_lit 0, nat_lit 0, []))))) (.branch (nat_lit 11) (.branch (nat_lit 10) (.leaf (nat_lit 15, nat_lit 7, nat_lit 11, nat_lit 96, nat_lit 0, nat_lit 6101, [nat_lit 0])) (.leaf (nat_lit 1, nat_lit 10, nat_lit 4, nat_lit 0, nat_lit 0, nat_lit 0, []))) (.branch (nat_lit 12) (.leaf (nat_lit 0, nat_lit 11, nat_lit 0, nat_lit 1, nat_lit 0, nat_lit 0, [])) (.branch (nat_lit 15) (.leaf (nat_lit 23, nat_lit 12, nat_lit 2, nat_lit 303, nat_lit 8036, nat_lit 243, [])) (.leaf (nat_lit 0, nat_lit 15, nat_lit 0, nat_lit 0, nat_lit 0, nat_lit 0, [])))))) (.branch (nat_lit 21) (.branch (nat_lit 18) (.branch (nat_lit 17) (.leaf (nat_lit 2, nat_lit 16, nat_lit 0, nat_lit 1, nat_lit 0, nat_lit 0, [])) (.leaf (nat_lit 0, nat_lit 17, nat_lit 0, nat_lit 0, nat_lit 0, nat_lit 0, []))) (.branch (nat_lit 19) (.leaf (nat_lit 2, nat_lit 18, nat_lit 0, nat_lit 2, nat_lit 0, nat_lit 0, [])) (.branch (nat_lit 20) (.leaf (nat_lit 0, nat_lit 19, nat_lit 0, nat_lit 0, nat_lit 0, nat_lit 0, [])) (.leaf (nat_lit 2, nat_lit 20, nat_lit 0, nat_lit 3, nat_lit 0, nat_lit 0, []))))) (.branch (nat_lit 26) (.branch (nat_lit 22) (.leaf (nat_lit 1, nat_lit 21, nat_lit 0, nat_lit 3, nat_lit 0, nat_lit 0, [])) (.branch (nat_lit 23) (.leaf (nat_lit 1, nat_lit 22, nat_lit 4, nat_lit 0, nat_lit 0, nat_lit 0, [])) (.leaf (nat_lit 23, nat_lit 23, nat_lit 2, nat_lit 288, nat_lit 7236, nat_lit 235, [])))) (.branch (nat_lit 64) (.leaf (nat_lit 9, nat_lit 26, nat_lit 3, nat_lit 64, nat_lit 0, nat_lit 0, [])) (.branch (nat_lit 65) (.leaf (nat_lit 1, nat_lit 64, nat_lit 0, nat_lit 1, nat_lit 0, nat_lit 0, [])) (.leaf (nat_lit 24, nat_lit 65, nat_lit 1, nat_lit 0, nat_lit 0, nat_lit 0, []))))))), [nat_lit 8079, nat_lit 1013, nat_lit 8077, nat_lit 8078])
set_option maxRecDepth 100000 in
def q_M256 : qM × List Nat := ((yX11_shift, cX11_shift, nat_lit 2, some .int, nat_lit 11, nat_lit 2, nat_lit 1, nat_lit 0, nat_lit 0, .branch (nat_lit 11) (.branch (nat_lit 5) (.branch (nat_lit 1) (.leaf (nat_lit 1, nat_lit 0, nat_lit 4, nat_lit 0, nat_lit 0, nat_lit 0, [])) (.branch (nat_lit 2) (.leaf (nat_lit 0, nat_lit 1, nat_lit 0, nat_lit 0, nat_lit 0, nat_lit 0, [])) (.leaf (nat_lit 15, nat_lit 2, nat_lit 11, nat_lit 93, nat_lit 1, nat_lit 6102, [nat_lit 0])))) (.branch (nat_lit 7) (.branch (nat_lit 6) (.leaf (nat_lit 1, nat_lit 5, nat_lit 4, nat_lit 0, nat_lit 0, nat_lit 0, [])) (.leaf (nat_lit 0, nat_lit 6, nat_lit 0, nat_lit 0, nat_lit 0, nat_lit 0, []))) (.branch (nat_lit 10) (.leaf (nat_lit 15, nat_lit 7, nat_lit 11, nat_lit 96, nat_lit 0, nat_lit 6101, [nat_lit 0])) (.leaf (nat_lit 1, nat_lit 10, nat_lit 4, nat_lit 0, nat_lit 0, nat_lit 0, []))))) (.branch (nat_lit 46) (.branch (nat_lit 12) (.leaf (nat_lit 1, nat_lit 11, nat_lit 0, nat_lit 1, nat_lit 0, nat_lit 0, [])) (.branch (nat_lit 15) (.leaf (nat_lit 23, nat_lit 12, nat_lit 2, nat_lit 315, nat_lit 8012, nat_lit 236, [])) (.leaf (nat_lit 8, nat_lit 15, nat_lit 0, nat_lit 46, nat_lit 0, nat_lit 0, [])))) (.branch (nat_lit 48) (.branch (nat_lit 47) (.leaf (nat_lit 1, nat_lit 46, nat_lit 4, nat_lit 0, nat_lit 0, nat_lit 0, [])) (.leaf (nat_lit 0, nat_lit 47, nat_lit 0, nat_lit 2, nat_lit 0, nat_lit 0, []))) (.branch (nat_lit 51) (.leaf (nat_lit 23, nat_lit 48, nat_lit 2, nat_lit 312, nat_lit 8004, nat_lit 181, [])) (.leaf (nat_lit 24, nat_lit 51, nat_lit 1, nat_lit 0, nat_lit 0, nat_lit 0, [])))))), [nat_lit 8084, nat_lit 1013, nat_lit 8082, nat_lit 8083])
set_option maxRecDepth 100000 in
def q_M257 : qM × List Nat := ((yX11_price, cX11_price, nat_lit 3, some .int, nat_lit 11, nat_lit 2, nat_lit 0, nat_lit 0, nat_lit 0, .branch (nat_lit 13) (.branch (nat_lit 6) (.branch (nat_lit 2) (.branch (nat_lit 1) (.leaf (nat_lit 1, nat_lit 0, nat_lit 4, nat_lit 0, nat_lit 0, nat_lit 0, [])) (.leaf (nat_lit 0, nat_lit 1, nat_lit 0, nat_lit 0, nat_lit 0, nat_lit 0, []))) (.branch (nat_lit 5) (.leaf (nat_lit 15, nat_lit 2, nat_lit 11, nat_lit 93, nat_lit 1, nat_lit 6102, [nat_lit 0])) (.leaf (nat_lit 1, nat_lit 5, nat_lit 4, nat_lit 0, nat_lit 0, nat_lit 0, [])))) (.branch (nat_lit 10) (.branch (nat_lit 7) (.leaf (nat_lit 0, nat_lit 6, nat_lit 0, nat_lit 0, nat_lit 0, nat_lit 0, [])) (.leaf (nat_lit 15, nat_lit 7, nat_lit 11, nat_lit 96, nat_lit 0, nat_lit 6101, [nat_lit 0]))) (.branch (nat_lit 11) (.leaf (nat_lit 0, nat_lit 10, nat_lit 0, nat_lit 0, nat_lit 0, nat_lit 0, [])) (.branch (nat_lit 12) (.leaf (nat_lit 2, nat_lit 11, nat_lit 0, nat_lit 1, nat_lit 0, nat_lit 0, [])) (.leaf (nat_lit 0, nat_lit 12, nat_lit 0, nat_lit 0, nat_lit 0, nat_lit 0, [])))))) (.branch (nat_lit 19) (.branch (nat_lit 15) (.branch (nat_lit 14) (.leaf (nat_lit 2, nat_lit 13, nat_lit 0, nat_lit 2, nat_lit 0, nat_lit 0, [])) (.leaf (nat_lit 1, nat_lit 14, nat_lit 0, nat_lit 2, nat_lit 0, nat_lit 0, []))) (.branch (nat_lit 16) (.leaf (nat_lit 1, nat_lit 15, nat_lit 4, nat_lit 0, nat_lit 0, nat_lit 0, [])) (.leaf (nat_lit 14, nat_lit 16, nat_lit 11, nat_lit 35, nat_lit 20, nat_lit 6121, [])))) (.branch (nat_lit 21) (.branch (nat_lit 20) (.leaf (nat_lit 0, nat_lit 19, nat_lit 0, nat_lit 4, nat_lit 0, nat_lit 0, [])) (.leaf (nat_lit 20, nat_lit 20, nat_lit 0, nat_lit 0, nat_lit 0, nat_lit 0, []))) (.branch (nat_lit 46) (.leaf (nat_lit 9, nat_lit 21, nat_lit 3, nat_lit 46, nat_lit 0, nat_lit 0, [])) (.branch (nat_lit 47) (.leaf (nat_lit 1, nat_lit 46, nat_lit 0, nat_lit 1, nat_lit 0, nat_lit 0, [])) (.leaf (nat_lit 24, nat_lit 47, nat_lit 1, nat_lit 0, nat_lit 0, nat_lit 0, []))))))), [nat_lit 8088, nat_lit 1013, nat_lit 8086, nat_lit 8087])
set_option maxRecDepth 100000 in
def q_M258 : qM × List Nat := ((yX11_dearest, cX11_dearest, nat_lit 6, some .int, nat_lit 11, nat_lit 2, nat_lit 0, nat_lit 0, nat_lit 0, .branch (nat_lit 16) (.branch (nat_lit 10) (.branch (nat_lit 5) (.branch (nat_lit 1) (.leaf (nat_lit 1, nat_lit 0, nat_lit 4, nat_lit 0, nat_lit 0, nat_lit 0, [])) (.branch (nat_lit 2) (.leaf (nat_lit 0, nat_lit 1, nat_lit 0, nat_lit 0, nat_lit 0, nat_lit 0, [])) (.leaf (nat_lit 15, nat_lit 2, nat_lit 11, nat_lit 93, nat_lit 1, nat_lit 6102, [nat_lit 0])))) (.branch (nat_lit 6) (.leaf (nat_lit 1, nat_lit 5, nat_lit 4, nat_lit 0, nat_lit 0, nat_lit 0, [])) (.branch (nat_lit 7) (.leaf (nat_lit 0, nat_lit 6, nat_lit 0, nat_lit 0, nat_lit 0, nat_lit 0, [])) (.leaf (nat_lit 15, nat_lit 7, nat_lit 11, nat_lit 96, nat_lit 0, nat_lit 6101, [nat_lit 0]))))) (.branch (nat_lit 13) (.branch (nat_lit 11) (.leaf (nat_lit 0, nat_lit 10, nat_lit 0, nat_lit 1, nat_lit 1, nat_lit 0, [])) (.branch (nat_lit 12) (.leaf (nat_lit 2, nat_lit 11, nat_lit 0, nat_lit 1, nat_lit 0, nat_lit 0, [])) (.leaf (nat_lit 0, nat_lit 12, nat_lit 0, nat_lit 0, nat_lit 0, nat_lit 0, [])))) (.branch (nat_lit 14) (.leaf (nat_lit 2, nat_lit 13, nat_lit 0, nat_lit 2, nat_lit 0, nat_lit 0, [])) (.branch (nat_lit 15) (.leaf (nat_lit 0, nat_lit 14, nat_lit 0, nat_lit 0, nat_lit 0, nat_lit 0, [])) (.leaf (nat_lit 2, nat_lit 15, nat_lit 0, nat_lit 3, nat_lit 0, nat_lit 0, [])))))) (.branch (nat_lit 110) (.branch (nat_lit 21) (.branch (nat_lit 17) (.leaf (nat_lit 1, nat_lit 16, nat_lit 0, nat_lit 3, nat_lit 0, nat_lit 0, [])) (.branch (nat_lit 18) (.leaf (nat_lit 1, nat_lit 17, nat_lit 4, nat_lit 0, nat_lit 0, nat_lit 0, [])) (.leaf (nat_lit 14, nat_lit 18, nat_lit 11, nat_lit 35, nat_lit 20, nat_lit 6121, [])))) (.branch (nat_lit 22) (.leaf (nat_lit 0, nat_lit 21, nat_lit 0, nat_lit 3, nat_lit 0, nat_lit 0, [])) (.branch (nat_lit 23) (.leaf (nat_lit 20, nat_lit 22, nat_lit 0, nat_lit 0, nat_lit 0, nat_lit 0, [])) (.leaf (nat_lit 9, nat_lit 23, nat_lit 3, nat_lit 110, nat_lit 0, nat_lit 0, []))))) (.branch (nat_lit 115) (.branch (nat_lit 111) (.leaf (nat_lit 1, nat_lit 110, nat_lit 0, nat_lit 1, nat_lit 0, nat_lit 0, [])) (.branch (nat_lit 114) (.leaf (nat_lit 8, nat_lit 111, nat_lit 3, nat_lit 123, nat_lit 0, nat_lit 0, [])) (.leaf (nat_lit 1, nat_lit 114, nat_lit 4, nat_lit 0, nat_lit 0, nat_lit 0, [])))) (.branch (nat_lit 120) (.branch (nat_lit 117) (.leaf (nat_lit 0, nat_lit 115, nat_lit 1, nat_lit 8, nat_lit 0, nat_lit 0, [])) (.leaf (nat_lit 23, nat_lit 117, nat_lit 2, nat_lit 312, nat_lit 8004, nat_lit 181, []))) (.branch (nat_lit 124) (.leaf (nat_lit 10, nat_lit 120, nat_lit 0, nat_lit 124, nat_lit 0, nat_lit 0, [])) (.leaf (nat_lit 24, nat_lit 124, nat_lit 1, nat_lit 0, nat_lit 0, nat_lit 0, []))))))), [nat_lit 8096, nat_lit 1013, nat_lit 8094, nat_lit 8095])
set_option maxRecDepth 100000 in
def q_M259 : qM × List Nat := ((yX11_astray, cX11_astray, nat_lit 2, some .int, nat_lit 11, nat_lit 2, nat_lit 0, nat_lit 0, nat_lit 0, .branch (nat_lit 12) (.branch (nat_lit 6) (.branch (nat_lit 2) (.branch (nat_lit 1) (.leaf (nat_lit 1, nat_lit 0, nat_lit 4, nat_lit 0, nat_lit 0, nat_lit 0, [])) (.leaf (nat_lit 0, nat_lit 1, nat_lit 0, nat_lit 0, nat_lit 0, nat_lit 0, []))) (.branch (nat_lit 5) (.leaf (nat_lit 15, nat_lit 2, nat_lit 11, nat_lit 93, nat_lit 1, nat_lit 6102, [nat_lit 0])) (.leaf (nat_lit 1, nat_lit 5, nat_lit 4, nat_lit 0, nat_lit 0, nat_lit 0, [])))) (.branch (nat_lit 10) (.branch (nat_lit 7) (.leaf (nat_lit 0, nat_lit 6, nat_lit 0, nat_lit 0, nat_lit 0, nat_lit 0, [])) (.leaf (nat_lit 15, nat_lit 7, nat_lit 11, nat_lit 96, nat_lit 0, nat_lit 6101, [nat_lit 0]))) (.branch (nat_lit 11) (.leaf (nat_lit 0, nat_lit 10, nat_lit 0, nat_lit 0, nat_lit 0, nat_lit 0, [])) (.leaf (nat_lit 2, nat_lit 11, nat_lit 0, nat_lit 1, nat_lit 0, nat_lit 0, []))))) (.branch (nat_lit 55) (.branch (nat_lit 14) (.branch (nat_lit 13) (.leaf (nat_lit 1, nat_lit 12, nat_lit 0, nat_lit 1, nat_lit 0, nat_lit 0, [])) (.leaf (nat_lit 1, nat_lit 13, nat_lit 4, nat_lit 0, nat_lit 0, nat_lit 0, []))) (.branch (nat_lit 17) (.leaf (nat_lit 23, nat_lit 14, nat_lit 2, nat_lit 288, nat_lit 7236, nat_lit 235, [])) (.leaf (nat_lit 9, nat_lit 17, nat_lit 3, nat_lit 55, nat_lit 0, nat_lit 0, [])))) (.branch (nat_lit 58) (.branch (nat_lit 56) (.leaf (nat_lit 1, nat_lit 55, nat_lit 4, nat_lit 0, nat_lit 0, nat_lit 0, [])) (.leaf (nat_lit 0, nat_lit 56, nat_lit 1, nat_lit 8, nat_lit 0, nat_lit 0, []))) (.branch (nat_lit 61) (.leaf (nat_lit 23, nat_lit 58, nat_lit 2, nat_lit 312, nat_lit 8004, nat_lit 181, [])) (.leaf (nat_lit 24, nat_lit 61, nat_lit 1, nat_lit 0, nat_lit 0, nat_lit 0, [])))))), [nat_lit 8100, nat_lit 1013, nat_lit 8098, nat_lit 8099])
set_option maxRecDepth 100000 in
def q_M260 : qM × List Nat := ((yX11_knock, cX11_knock, nat_lit 2, some .int, nat_lit 11, nat_lit 2, nat_lit 1, nat_lit 0, nat_lit 0, .branch (nat_lit 11) (.branch (nat_lit 5) (.branch (nat_lit 1) (.leaf (nat_lit 1, nat_lit 0, nat_lit 4, nat_lit 0, nat_lit 0, nat_lit 0, [])) (.branch (nat_lit 2) (.leaf (nat_lit 0, nat_lit 1, nat_lit 0, nat_lit 0, nat_lit 0, nat_lit 0, [])) (.leaf (nat_lit 15, nat_lit 2, nat_lit 11, nat_lit 93, nat_lit 1, nat_lit 6102, [nat_lit 0])))) (.branch (nat_lit 7) (.branch (nat_lit 6) (.leaf (nat_lit 1, nat_lit 5, nat_lit 4, nat_lit 0, nat_lit 0, nat_lit 0, [])) (.leaf (nat_lit 0, nat_lit 6, nat_lit 0, nat_lit 0, nat_lit 0, nat_lit 0, []))) (.branch (nat_lit 10) (.leaf (nat_lit 15, nat_lit 7, nat_lit 11, nat_lit 96, nat_lit 0, nat_lit 6101, [nat_lit 0])) (.leaf (nat_lit 1, nat_lit 10, nat_lit 4, nat_lit 0, nat_lit 0, nat_lit 0, []))))) (.branch (nat_lit 18) (.branch (nat_lit 12) (.leaf (nat_lit 1, nat_lit 11, nat_lit 0, nat_lit 1, nat_lit 0, nat_lit 0, [])) (.branch (nat_lit 15) (.leaf (nat_lit 23, nat_lit 12, nat_lit 2, nat_lit 315, nat_lit 8012, nat_lit 236, [])) (.leaf (nat_lit 8, nat_lit 15, nat_lit 1, nat_lit 24, nat_lit 0, nat_lit 0, [])))) (.branch (nat_lit 20) (.branch (nat_lit 19) (.leaf (nat_lit 1, nat_lit 18, nat_lit 4, nat_lit 0, nat_lit 0, nat_lit 0, [])) (.leaf (nat_lit 0, nat_lit 19, nat_lit 0, nat_lit 2, nat_lit 0, nat_lit 0, []))) (.branch (nat_lit 23) (.leaf (nat_lit 23, nat_lit 20, nat_lit 2, nat_lit 312, nat_lit 8004, nat_lit 181, [])) (.leaf (nat_lit 24, nat_lit 23, nat_lit 1, nat_lit 0, nat_lit 0, nat_lit 0, [])))))), [nat_lit 8104, nat_lit 1013, nat_lit 8102, nat_lit 8103])
set_option maxRecDepth 100000 in
def q_M261 : qM × List Nat := ((yX11_note, cX11_note, nat_lit 3, some .boolean, nat_lit 11, nat_lit 2, nat_lit 2, nat_lit 0, nat_lit 0, .branch (nat_lit 11) (.branch (nat_lit 5) (.branch (nat_lit 1) (.leaf (nat_lit 1, nat_lit 0, nat_lit 4, nat_lit 0, nat_lit 0, nat_lit 0, [])) (.branch (nat_lit 2) (.leaf (nat_lit 0, nat_lit 1, nat_lit 0, nat_lit 0, nat_lit 0, nat_lit 0, [])) (.leaf (nat_lit 15, nat_lit 2, nat_lit 11, nat_lit 93, nat_lit 1, nat_lit 6102, [nat_lit 0])))) (.branch (nat_lit 7) (.branch (nat_lit 6) (.leaf (nat_lit 1, nat_lit 5, nat_lit 4, nat_lit 0, nat_lit 0, nat_lit 0, [])) (.leaf (nat_lit 0, nat_lit 6, nat_lit 0, nat_lit 0, nat_lit 0, nat_lit 0, []))) (.branch (nat_lit 10) (.leaf (nat_lit 15, nat_lit 7, nat_lit 11, nat_lit 96, nat_lit 0, nat_lit 6101, [nat_lit 0])) (.leaf (nat_lit 1, nat_lit 10, nat_lit 4, nat_lit 0, nat_lit 0, nat_lit 0, []))))) (.branch (nat_lit 18) (.branch (nat_lit 12) (.leaf (nat_lit 1, nat_lit 11, nat_lit 0, nat_lit 1, nat_lit 0, nat_lit 0, [])) (.branch (nat_lit 15) (.leaf (nat_lit 23, nat_lit 12, nat_lit 2, nat_lit 315, nat_lit 8012, nat_lit 236, [])) (.leaf (nat_lit 8, nat_lit 15, nat_lit 1, nat_lit 24, nat_lit 0, nat_lit 0, [])))) (.branch (nat_lit 20) (.branch (nat_lit 19) (.leaf (nat_lit 1, nat_lit 18, nat_lit 4, nat_lit 0, nat_lit 0, nat_lit 0, [])) (.leaf (nat_lit 0, nat_lit 19, nat_lit 0, nat_lit 2, nat_lit 0, nat_lit 0, []))) (.branch (nat_lit 23) (.leaf (nat_lit 23, nat_lit 20, nat_lit 2, nat_lit 108, nat_lit 7038, nat_lit 182, [])) (.leaf (nat_lit 24, nat_lit 23, nat_lit 1, nat_lit 0, nat_lit 0, nat_lit 0, [])))))), [nat_lit 8108, nat_lit 1013, nat_lit 8106, nat_lit 8107])
set_option maxRecDepth 100000 in
def q_M262 : qM × List Nat := ((yX11_clear, cX11_clear, nat_lit 3, some .int, nat_lit 11, nat_lit 2, nat_lit 0, nat_lit 0, nat_lit 0, .branch (nat_lit 18) (.branch (nat_lit 10) (.branch (nat_lit 5) (.branch (nat_lit 1) (.leaf (nat_lit 1, nat_lit 0, nat_lit 4, nat_lit 0, nat_lit 0, nat_lit 0, [])) (.branch (nat_lit 2) (.leaf (nat_lit 0, nat_lit 1, nat_lit 0, nat_lit 0, nat_lit 0, nat_lit 0, [])) (.leaf (nat_lit 15, nat_lit 2, nat_lit 11, nat_lit 93, nat_lit 1, nat_lit 6102, [nat_lit 0])))) (.branch (nat_lit 6) (.leaf (nat_lit 1, nat_lit 5, nat_lit 4, nat_lit 0, nat_lit 0, nat_lit 0, [])) (.branch (nat_lit 7) (.leaf (nat_lit 0, nat_lit 6, nat_lit 0, nat_lit 0, nat_lit 0, nat_lit 0, [])) (.leaf (nat_lit 15, nat_lit 7, nat_lit 11, nat_lit 96, nat_lit 0, nat_lit 6101, [nat_lit 0]))))) (.branch (nat_lit 15) (.branch (nat_lit 11) (.leaf (nat_lit 1, nat_lit 10, nat_lit 4, nat_lit 0, nat_lit 0, nat_lit 0, [])) (.branch (nat_lit 14) (.leaf (nat_lit 23, nat_lit 11, nat_lit 2, nat_lit 309, nat_lit 8000, nat_lit 247, [])) (.leaf (nat_lit 2, nat_lit 14, nat_lit 0, nat_lit 1, nat_lit 0, nat_lit 0, [])))) (.branch (nat_lit 16) (.leaf (nat_lit 0, nat_lit 15, nat_lit 0, nat_lit 0, nat_lit 0, nat_lit 0, [])) (.branch (nat_lit 17) (.leaf (nat_lit 2, nat_lit 16, nat_lit 0, nat_lit 2, nat_lit 0, nat_lit 0, [])) (.leaf (nat_lit 1, nat_lit 17, nat_lit 0, nat_lit 2, nat_lit 0, nat_lit 0, [])))))) (.branch (nat_lit 30) (.branch (nat_lit 24) (.branch (nat_lit 20) (.leaf (nat_lit 0, nat_lit 18, nat_lit 1, nat_lit 96, nat_lit 0, nat_lit 0, [])) (.branch (nat_lit 23) (.leaf (nat_lit 9, nat_lit 20, nat_lit 3, nat_lit 39, nat_lit 0, nat_lit 0, [])) (.leaf (nat_lit 1, nat_lit 23, nat_lit 4, nat_lit 0, nat_lit 0, nat_lit 0, [])))) (.branch (nat_lit 27) (.leaf (nat_lit 14, nat_lit 24, nat_lit 11, nat_lit 35, nat_lit 20, nat_lit 6121, [])) (.branch (nat_lit 29) (.leaf (nat_lit 0, nat_lit 27, nat_lit 1, nat_lit 49, nat_lit 0, nat_lit 0, [])) (.leaf (nat_lit 1, nat_lit 29, nat_lit 0, nat_lit 2, nat_lit 0, nat_lit 0, []))))) (.branch (nat_lit 33) (.branch (nat_lit 31) (.leaf (nat_lit 4, nat_lit 30, nat_lit 0, nat_lit 0, nat_lit 0, nat_lit 0, [])) (.branch (nat_lit 32) (.leaf (nat_lit 0, nat_lit 31, nat_lit 0, nat_lit 0, nat_lit 0, nat_lit 0, [])) (.leaf (nat_lit 21, nat_lit 32, nat_lit 0, nat_lit 0, nat_lit 0, nat_lit 0, [])))) (.branch (nat_lit 39) (.branch (nat_lit 36) (.leaf (nat_lit 3, nat_lit 33, nat_lit 0, nat_lit 2, nat_lit 1, nat_lit 0, [])) (.leaf (nat_lit 10, nat_lit 36, nat_lit 0, nat_lit 17, nat_lit 0, nat_lit 0, []))) (.branch (nat_lit 40) (.leaf (nat_lit 1, nat_lit 39, nat_lit 0, nat_lit 1, nat_lit 0, nat_lit 0, [])) (.leaf (nat_lit 24, nat_lit 40, nat_lit 1, nat_lit 0, nat_lit 0, nat_lit 0, []))))))), [nat_lit 8112, nat_lit 1013, nat_lit 8110, nat_lit 8111])
set_option maxRecDepth 100000 in
def q_M263 : qM × List Nat := ((yX11_wrong, cX11_wrong, nat_lit 2, some .int, nat_lit 11, nat_lit 2, nat_lit 0, nat_lit 0, nat_lit 0, .branch (nat_lit 15) (.branch (nat_lit 6) (.branch (nat_lit 2) (.branch (nat_lit 1) (.leaf (nat_lit 1, nat_lit 0, nat_lit 4, nat_lit 0, nat_lit 0, nat_lit 0, [])) (.leaf (nat_lit 0, nat_lit 1, nat_lit 0, nat_lit 0, nat_lit 0, nat_lit 0, []))) (.branch (nat_lit 5) (.leaf (nat_lit 15, nat_lit 2, nat_lit 11, nat_lit 93, nat_lit 1, nat_lit 6102, [nat_lit 0])) (.leaf (nat_lit 1, nat_lit 5, nat_lit 4, nat_lit 0, nat_lit 0, nat_lit 0, [])))) (.branch (nat_lit 10) (.branch (nat_lit 7) (.leaf (nat_lit 0, nat_lit 6, nat_lit 0, nat_lit 0, nat_lit 0, nat_lit 0, [])) (.leaf (nat_lit 15, nat_lit 7, nat_lit 11, nat_lit 96, nat_lit 0, nat_lit 6101, [nat_lit 0]))) (.branch (nat_lit 11) (.leaf (nat_lit 1, nat_lit 10, nat_lit 4, nat_lit 0, nat_lit 0, nat_lit 0, [])) (.branch (nat_lit 12) (.leaf (nat_lit 0, nat_lit 11, nat_lit 0, nat_lit 0, nat_lit 0, nat_lit 0, [])) (.leaf (nat_lit 23, nat_lit 12, nat_lit 2, nat_lit 303, nat_lit 8036, nat_lit 243, [])))))) (.branch (nat_lit 22) (.branch (nat_lit 17) (.branch (nat_lit 16) (.leaf (nat_lit 0, nat_lit 15, nat_lit 0, nat_lit 0, nat_lit 0, nat_lit 0, [])) (.leaf (nat_lit 2, nat_lit 16, nat_lit 0, nat_lit 1, nat_lit 0, nat_lit 0, []))) (.branch (nat_lit 18) (.leaf (nat_lit 1, nat_lit 17, nat_lit 0, nat_lit 1, nat_lit 0, nat_lit 0, [])) (.branch (nat_lit 19) (.leaf (nat_lit 1, nat_lit 18, nat_lit 4, nat_lit 0, nat_lit 0, nat_lit 0, [])) (.leaf (nat_lit 23, nat_lit 19, nat_lit 2, nat_lit 288, nat_lit 7236, nat_lit 235, []))))) (.branch (nat_lit 87) (.branch (nat_lit 86) (.leaf (nat_lit 9, nat_lit 22, nat_lit 3, nat_lit 86, nat_lit 0, nat_lit 0, [])) (.leaf (nat_lit 1, nat_lit 86, nat_lit 4, nat_lit 0, nat_lit 0, nat_lit 0, []))) (.branch (nat_lit 89) (.leaf (nat_lit 0, nat_lit 87, nat_lit 1, nat_lit 8, nat_lit 0, nat_lit 0, [])) (.branch (nat_lit 92) (.leaf (nat_lit 23, nat_lit 89, nat_lit 2, nat_lit 312, nat_lit 8004, nat_lit 181, [])) (.leaf (nat_lit 24, nat_lit 92, nat_lit 1, nat_lit 0, nat_lit 0, nat_lit 0, []))))))), [nat_lit 8116, nat_lit 1013, nat_lit 8114, nat_lit 8115])
set_option maxRecDepth 100000 in
def q_M266 : qM × List Nat := ((yX11_cell, cX11_cell, nat_lit 2, some .int, nat_lit 11, nat_lit 0, nat_lit 2, nat_lit 0, nat_lit 0, .branch (nat_lit 4) (.branch (nat_lit 2) (.leaf (nat_lit 0, nat_lit 0, nat_lit 1, nat_lit 14, nat_lit 0, nat_lit 0, [])) (.branch (nat_lit 3) (.leaf (nat_lit 1, nat_lit 2, nat_lit 0, nat_lit 0, nat_lit 0, nat_lit 0, [])) (.leaf (nat_lit 4, nat_lit 3, nat_lit 2, nat_lit 0, nat_lit 0, nat_lit 0, [])))) (.branch (nat_lit 5) (.leaf (nat_lit 1, nat_lit 4, nat_lit 0, nat_lit 1, nat_lit 0, nat_lit 0, [])) (.branch (nat_lit 6) (.leaf (nat_lit 4, nat_lit 5, nat_lit 0, nat_lit 0, nat_lit 0, nat_lit 0, [])) (.leaf (nat_lit 24, nat_lit 6, nat_lit 1, nat_lit 0, nat_lit 0, nat_lit 0, []))))), [nat_lit 8131, nat_lit 1013, nat_lit 8130, nat_lit 0])
set_option maxRecDepth 100000 in
def q_M268 : qM × List Nat := ((yX11_explains, cX11_explains, nat_lit 9, some .boolean, nat_lit 11, nat_lit 2, nat_lit 1, nat_lit 0, nat_lit 0, .branch (nat_lit 125) (.branch (nat_lit 81) (.branch (nat_lit 38) (.branch (nat_lit 6) (.branch (nat_lit 4) (.branch (nat_lit 1) (.leaf (nat_lit 1, nat_lit 0, nat_lit 4, nat_lit 0, nat_lit 0, nat_lit 0, [])) (.leaf (nat_lit 23, nat_lit 1, nat_lit 2, nat_lit 288, nat_lit 7236, nat_lit 235, []))) (.branch (nat_lit 5) (.leaf (nat_lit 2, nat_lit 4, nat_lit 0, nat_lit 2, nat_lit 0, nat_lit 0, [])) (.leaf (nat_lit 0, nat_lit 5, nat_lit 0, nat_lit 0, nat_lit 0, nat_lit 0, [])))) (.branch (nat_lit 8) (.branch (nat_lit 7) (.leaf (nat_lit 2, nat_lit 6, nat_lit 0, nat_lit 3, nat_lit 0, nat_lit 0, [])) (.leaf (nat_lit 1, nat_lit 7, nat_lit 0, nat_lit 3, nat_lit 0, nat_lit 0, []))) (.branch (nat_lit 9) (.leaf (nat_lit 1, nat_lit 8, nat_lit 0, nat_lit 2, nat_lit 0, nat_lit 0, [])) (.branch (nat_lit 37) (.leaf (nat_lit 9, nat_lit 9, nat_lit 3, nat_lit 37, nat_lit 0, nat_lit 0, [])) (.leaf (nat_lit 0, nat_lit 37, nat_lit 0, nat_lit 1, nat_lit 0, nat_lit 0, [])))))) (.branch (nat_lit 45) (.branch (nat_lit 40) (.branch (nat_lit 39) (.leaf (nat_lit 2, nat_lit 38, nat_lit 0, nat_lit 3, nat_lit 0, nat_lit 0, [])) (.leaf (nat_lit 1, nat_lit 39, nat_lit 0, nat_lit 3, nat_lit 0, nat_lit 0, []))) (.branch (nat_lit 41) (.leaf (nat_lit 1, nat_lit 40, nat_lit 4, nat_lit 0, nat_lit 0, nat_lit 0, [])) (.branch (nat_lit 44) (.leaf (nat_lit 14, nat_lit 41, nat_lit 11, nat_lit 35, nat_lit 20, nat_lit 6121, [])) (.leaf (nat_lit 0, nat_lit 44, nat_lit 0, nat_lit 0, nat_lit 0, nat_lit 0, []))))) (.branch (nat_lit 49) (.branch (nat_lit 46) (.leaf (nat_lit 20, nat_lit 45, nat_lit 0, nat_lit 0, nat_lit 0, nat_lit 0, [])) (.leaf (nat_lit 9, nat_lit 46, nat_lit 4, nat_lit 131, nat_lit 0, nat_lit 0, []))) (.branch (nat_lit 50) (.leaf (nat_lit 1, nat_lit 49, nat_lit 0, nat_lit 2, nat_lit 0, nat_lit 0, [])) (.branch (nat_lit 80) (.leaf (nat_lit 8, nat_lit 50, nat_lit 5, nat_lit 80, nat_lit 0, nat_lit 0, [])) (.leaf (nat_lit 0, nat_lit 80, nat_lit 0, nat_lit 0, nat_lit 0, nat_lit 0, []))))))) (.branch (nat_lit 104) (.branch (nat_lit 88) (.branch (nat_lit 84) (.branch (nat_lit 83) (.leaf (nat_lit 2, nat_lit 81, nat_lit 1, nat_lit 4, nat_lit 0, nat_lit 0, [])) (.leaf (nat_lit 1, nat_lit 83, nat_lit 4, nat_lit 0, nat_lit 0, nat_lit 0, []))) (.branch (nat_lit 87) (.leaf (nat_lit 14, nat_lit 84, nat_lit 11, nat_lit 47, nat_lit 25, nat_lit 6126, [])) (.leaf (nat_lit 0, nat_lit 87, nat_lit 0, nat_lit 0, nat_lit 0, nat_lit 0, [])))) (.branch (nat_lit 92) (.branch (nat_lit 89) (.leaf (nat_lit 1, nat_lit 88, nat_lit 0, nat_lit 3, nat_lit 0, nat_lit 0, [])) (.leaf (nat_lit 23, nat_lit 89, nat_lit 0, nat_lit 342, nat_lit 8129, nat_lit 266, []))) (.branch (nat_lit 94) (.leaf (nat_lit 1, nat_lit 92, nat_lit 1, nat_lit 4, nat_lit 0, nat_lit 0, [])) (.branch (nat_lit 101) (.leaf (nat_lit 8, nat_lit 94, nat_lit 0, nat_lit 101, nat_lit 0, nat_lit 0, [])) (.leaf (nat_lit 0, nat_lit 101, nat_lit 5, nat_lit 345, nat_lit 1000000, nat_lit 8132, [])))))) (.branch (nat_lit 111) (.branch (nat_lit 106) (.branch (nat_lit 105) (.leaf (nat_lit 21, nat_lit 104, nat_lit 0, nat_lit 0, nat_lit 0, nat_lit 0, [])) (.leaf (nat_lit 1, nat_lit 105, nat_lit 4, nat_lit 0, nat_lit 0, nat_lit 0, []))) (.branch (nat_lit 109) (.leaf (nat_lit 14, nat_lit 106, nat_lit 11, nat_lit 56, nat_lit 28, nat_lit 6129, [])) (.branch (nat_lit 110) (.leaf (nat_lit 0, nat_lit 109, nat_lit 0, nat_lit 0, nat_lit 0, nat_lit 0, [])) (.leaf (nat_lit 1, nat_lit 110, nat_lit 0, nat_lit 3, nat_lit 0, nat_lit 0, []))))) (.branch (nat_lit 116) (.branch (nat_lit 114) (.leaf (nat_lit 23, nat_lit 111, nat_lit 0, nat_lit 342, nat_lit 8129, nat_lit 266, [])) (.leaf (nat_lit 1, nat_lit 114, nat_lit 1, nat_lit 4, nat_lit 0, nat_lit 0, []))) (.branch (nat_lit 123) (.leaf (nat_lit 8, nat_lit 116, nat_lit 0, nat_lit 123, nat_lit 0, nat_lit 0, [])) (.branch (nat_lit 124) (.leaf (nat_lit 0, nat_lit 123, nat_lit 3, nat_lit 0, nat_lit 0, nat_lit 0, [])) (.leaf (nat_lit 21, nat_lit 124, nat_lit 2, nat_lit 0, nat_lit 0, nat_lit 0, [])))))))) (.branch (nat_lit 518) (.branch (nat_lit 356) (.branch (nat_lit 133) (.branch (nat_lit 131) (.branch (nat_lit 128) (.leaf (nat_lit 3, nat_lit 125, nat_lit 0, nat_lit 3, nat_lit 1, nat_lit 0, [])) (.leaf (nat_lit 10, nat_lit 128, nat_lit 0, nat_lit 39, nat_lit 0, nat_lit 0, []))) (.branch (nat_lit 132) (.leaf (nat_lit 0, nat_lit 131, nat_lit 0, nat_lit 1, nat_lit 0, nat_lit 0, [])) (.leaf (nat_lit 2, nat_lit 132, nat_lit 0, nat_lit 3, nat_lit 0, nat_lit 0, [])))) (.branch (nat_lit 135) (.branch (nat_lit 134) (.leaf (nat_lit 1, nat_lit 133, nat_lit 0, nat_lit 3, nat_lit 0, nat_lit 0, [])) (.leaf (nat_lit 1, nat_lit 134, nat_lit 0, nat_lit 2, nat_lit 0, nat_lit 0, []))) (.branch (nat_lit 352) (.leaf (nat_lit 9, nat_lit 135, nat_lit 3, nat_lit 352, nat_lit 0, nat_lit 0, [])) (.branch (nat_lit 353) (.leaf (nat_lit 1, nat_lit 352, nat_lit 4, nat_lit 0, nat_lit 0, nat_lit 0, [])) (.leaf (nat_lit 0, nat_lit 353, nat_lit 5, nat_lit 345, nat_lit 1000000, nat_lit 8132, [])))))) (.branch (nat_lit 363) (.branch (nat_lit 360) (.branch (nat_lit 359) (.leaf (nat_lit 15, nat_lit 356, nat_lit 11, nat_lit 358, nat_lit 29, nat_lit 6130, [nat_lit 0])) (.leaf (nat_lit 1, nat_lit 359, nat_lit 0, nat_lit 2, nat_lit 0, nat_lit 0, []))) (.branch (nat_lit 361) (.leaf (nat_lit 0, nat_lit 360, nat_lit 0, nat_lit 1, nat_lit 0, nat_lit 0, [])) (.branch (nat_lit 362) (.leaf (nat_lit 4, nat_lit 361, nat_lit 1, nat_lit 0, nat_lit 0, nat_lit 0, [])) (.leaf (nat_lit 2, nat_lit 362, nat_lit 0, nat_lit 3, nat_lit 0, nat_lit 0, []))))) (.branch (nat_lit 513) (.branch (nat_lit 364) (.leaf (nat_lit 1, nat_lit 363, nat_lit 0, nat_lit 3, nat_lit 0, nat_lit 0, [])) (.leaf (nat_lit 8, nat_lit 364, nat_lit 2, nat_lit 513, nat_lit 0, nat_lit 0, []))) (.branch (nat_lit 514) (.leaf (nat_lit 1, nat_lit 513, nat_lit 0, nat_lit 2, nat_lit 0, nat_lit 0, [])) (.branch (nat_lit 517) (.leaf (nat_lit 8, nat_lit 514, nat_lit 1, nat_lit 522, nat_lit 0, nat_lit 0, [])) (.leaf (nat_lit 1, nat_lit 517, nat_lit 4, nat_lit 0, nat_lit 0, nat_lit 0, []))))))) (.branch (nat_lit 531) (.branch (nat_lit 524) (.branch (nat_lit 522) (.branch (nat_lit 519) (.leaf (nat_lit 0, nat_lit 518, nat_lit 0, nat_lit 0, nat_lit 0, nat_lit 0, [])) (.leaf (nat_lit 15, nat_lit 519, nat_lit 11, nat_lit 358, nat_lit 29, nat_lit 6130, [nat_lit 0]))) (.branch (nat_lit 523) (.leaf (nat_lit 0, nat_lit 522, nat_lit 0, nat_lit 1, nat_lit 0, nat_lit 0, [])) (.leaf (nat_lit 2, nat_lit 523, nat_lit 0, nat_lit 3, nat_lit 0, nat_lit 0, [])))) (.branch (nat_lit 526) (.branch (nat_lit 525) (.leaf (nat_lit 1, nat_lit 524, nat_lit 0, nat_lit 3, nat_lit 0, nat_lit 0, [])) (.leaf (nat_lit 1, nat_lit 525, nat_lit 4, nat_lit 0, nat_lit 0, nat_lit 0, []))) (.branch (nat_lit 529) (.leaf (nat_lit 14, nat_lit 526, nat_lit 11, nat_lit 35, nat_lit 20, nat_lit 6121, [])) (.branch (nat_lit 530) (.leaf (nat_lit 0, nat_lit 529, nat_lit 0, nat_lit 0, nat_lit 0, nat_lit 0, [])) (.leaf (nat_lit 20, nat_lit 530, nat_lit 0, nat_lit 0, nat_lit 0, nat_lit 0, [])))))) (.branch (nat_lit 580) (.branch (nat_lit 535) (.branch (nat_lit 534) (.leaf (nat_lit 9, nat_lit 531, nat_lit 4, nat_lit 576, nat_lit 0, nat_lit 0, [])) (.leaf (nat_lit 1, nat_lit 534, nat_lit 0, nat_lit 2, nat_lit 0, nat_lit 0, []))) (.branch (nat_lit 576) (.leaf (nat_lit 8, nat_lit 535, nat_lit 5, nat_lit 576, nat_lit 0, nat_lit 0, [])) (.branch (nat_lit 577) (.leaf (nat_lit 1, nat_lit 576, nat_lit 4, nat_lit 0, nat_lit 0, nat_lit 0, [])) (.leaf (nat_lit 14, nat_lit 577, nat_lit 11, nat_lit 358, nat_lit 29, nat_lit 6130, []))))) (.branch (nat_lit 586) (.branch (nat_lit 583) (.leaf (nat_lit 0, nat_lit 580, nat_lit 5, nat_lit 345, nat_lit 1000000, nat_lit 8132, [])) (.leaf (nat_lit 9, nat_lit 583, nat_lit 3, nat_lit 590, nat_lit 0, nat_lit 0, []))) (.branch (nat_lit 587) (.leaf (nat_lit 0, nat_lit 586, nat_lit 0, nat_lit 1, nat_lit 0, nat_lit 0, [])) (.branch (nat_lit 591) (.leaf (nat_lit 10, nat_lit 587, nat_lit 0, nat_lit 591, nat_lit 0, nat_lit 0, [])) (.leaf (nat_lit 24, nat_lit 591, nat_lit 1, nat_lit 0, nat_lit 0, nat_lit 0, []))))))))), [nat_lit 8124, nat_lit 1013, nat_lit 8123, nat_lit 100])
set_option maxRecDepth 100000 in
def q_M270 : qM × List Nat := ((yX11_allWays, cX11_allWays, nat_lit 6, some .long, nat_lit 11, nat_lit 2, nat_lit 1, nat_lit 0, nat_lit 0, .branch (nat_lit 13) (.branch (nat_lit 5) (.branch (nat_lit 1) (.leaf (nat_lit 1, nat_lit 0, nat_lit 4, nat_lit 0, nat_lit 0, nat_lit 0, [])) (.branch (nat_lit 4) (.leaf (nat_lit 23, nat_lit 1, nat_lit 2, nat_lit 288, nat_lit 7236, nat_lit 235, [])) (.leaf (nat_lit 2, nat_lit 4, nat_lit 0, nat_lit 2, nat_lit 0, nat_lit 0, [])))) (.branch (nat_lit 9) (.branch (nat_lit 6) (.leaf (nat_lit 1, nat_lit 5, nat_lit 0, nat_lit 2, nat_lit 0, nat_lit 0, [])) (.leaf (nat_lit 8, nat_lit 6, nat_lit 1, nat_lit 25, nat_lit 0, nat_lit 0, []))) (.branch (nat_lit 10) (.leaf (nat_lit 1, nat_lit 9, nat_lit 0, nat_lit 1, nat_lit 0, nat_lit 0, [])) (.leaf (nat_lit 8, nat_lit 10, nat_lit 0, nat_lit 23, nat_lit 0, nat_lit 0, []))))) (.branch (nat_lit 19) (.branch (nat_lit 17) (.branch (nat_lit 14) (.leaf (nat_lit 1, nat_lit 13, nat_lit 4, nat_lit 0, nat_lit 0, nat_lit 0, [])) (.leaf (nat_lit 14, nat_lit 14, nat_lit 11, nat_lit 35, nat_lit 20, nat_lit 6121, []))) (.branch (nat_lit 18) (.leaf (nat_lit 0, nat_lit 17, nat_lit 0, nat_lit 0, nat_lit 0, nat_lit 0, [])) (.leaf (nat_lit 20, nat_lit 18, nat_lit 0, nat_lit 0, nat_lit 0, nat_lit 0, [])))) (.branch (nat_lit 23) (.branch (nat_lit 20) (.leaf (nat_lit 6, nat_lit 19, nat_lit 0, nat_lit 0, nat_lit 0, nat_lit 0, [])) (.leaf (nat_lit 10, nat_lit 20, nat_lit 0, nat_lit 24, nat_lit 0, nat_lit 0, []))) (.branch (nat_lit 24) (.leaf (nat_lit 0, nat_lit 23, nat_lit 3, nat_lit 1, nat_lit 0, nat_lit 0, [])) (.leaf (nat_lit 24, nat_lit 24, nat_lit 2, nat_lit 0, nat_lit 0, nat_lit 0, [])))))), [nat_lit 8149, nat_lit 1013, nat_lit 8148, nat_lit 103])
set_option maxRecDepth 100000 in
def q_M271 : qM × List Nat := ((yX11_least, cX11_least, nat_lit 2, some .int, nat_lit 11, nat_lit 2, nat_lit 1, nat_lit 0, nat_lit 0, .branch (nat_lit 11) (.branch (nat_lit 5) (.branch (nat_lit 1) (.leaf (nat_lit 1, nat_lit 0, nat_lit 4, nat_lit 0, nat_lit 0, nat_lit 0, [])) (.branch (nat_lit 2) (.leaf (nat_lit 0, nat_lit 1, nat_lit 0, nat_lit 0, nat_lit 0, nat_lit 0, [])) (.leaf (nat_lit 15, nat_lit 2, nat_lit 11, nat_lit 93, nat_lit 1, nat_lit 6102, [nat_lit 0])))) (.branch (nat_lit 7) (.branch (nat_lit 6) (.leaf (nat_lit 1, nat_lit 5, nat_lit 4, nat_lit 0, nat_lit 0, nat_lit 0, [])) (.leaf (nat_lit 0, nat_lit 6, nat_lit 0, nat_lit 0, nat_lit 0, nat_lit 0, []))) (.branch (nat_lit 10) (.leaf (nat_lit 15, nat_lit 7, nat_lit 11, nat_lit 96, nat_lit 0, nat_lit 6101, [nat_lit 0])) (.leaf (nat_lit 1, nat_lit 10, nat_lit 4, nat_lit 0, nat_lit 0, nat_lit 0, []))))) (.branch (nat_lit 18) (.branch (nat_lit 12) (.leaf (nat_lit 1, nat_lit 11, nat_lit 0, nat_lit 1, nat_lit 0, nat_lit 0, [])) (.branch (nat_lit 15) (.leaf (nat_lit 23, nat_lit 12, nat_lit 2, nat_lit 361, nat_lit 8121, nat_lit 268, [])) (.leaf (nat_lit 8, nat_lit 15, nat_lit 0, nat_lit 25, nat_lit 0, nat_lit 0, [])))) (.branch (nat_lit 22) (.branch (nat_lit 19) (.leaf (nat_lit 1, nat_lit 18, nat_lit 4, nat_lit 0, nat_lit 0, nat_lit 0, [])) (.leaf (nat_lit 14, nat_lit 19, nat_lit 11, nat_lit 358, nat_lit 29, nat_lit 6130, []))) (.branch (nat_lit 31) (.leaf (nat_lit 10, nat_lit 22, nat_lit 0, nat_lit 31, nat_lit 0, nat_lit 0, [])) (.leaf (nat_lit 24, nat_lit 31, nat_lit 1, nat_lit 0, nat_lit 0, nat_lit 0, [])))))), [nat_lit 8120, nat_lit 1013, nat_lit 8118, nat_lit 8119])
set_option maxRecDepth 100000 in
def q_M272 : qM × List Nat := ((yX11_ways, cX11_ways, nat_lit 2, some .int, nat_lit 11, nat_lit 2, nat_lit 1, nat_lit 0, nat_lit 0, .branch (nat_lit 12) (.branch (nat_lit 6) (.branch (nat_lit 2) (.branch (nat_lit 1) (.leaf (nat_lit 1, nat_lit 0, nat_lit 4, nat_lit 0, nat_lit 0, nat_lit 0, [])) (.leaf (nat_lit 0, nat_lit 1, nat_lit 0, nat_lit 0, nat_lit 0, nat_lit 0, []))) (.branch (nat_lit 5) (.leaf (nat_lit 15, nat_lit 2, nat_lit 11, nat_lit 93, nat_lit 1, nat_lit 6102, [nat_lit 0])) (.leaf (nat_lit 1, nat_lit 5, nat_lit 4, nat_lit 0, nat_lit 0, nat_lit 0, [])))) (.branch (nat_lit 10) (.branch (nat_lit 7) (.leaf (nat_lit 0, nat_lit 6, nat_lit 0, nat_lit 0, nat_lit 0, nat_lit 0, [])) (.leaf (nat_lit 15, nat_lit 7, nat_lit 11, nat_lit 96, nat_lit 0, nat_lit 6101, [nat_lit 0]))) (.branch (nat_lit 11) (.leaf (nat_lit 1, nat_lit 10, nat_lit 4, nat_lit 0, nat_lit 0, nat_lit 0, [])) (.leaf (nat_lit 1, nat_lit 11, nat_lit 0, nat_lit 1, nat_lit 0, nat_lit 0, []))))) (.branch (nat_lit 20) (.branch (nat_lit 18) (.branch (nat_lit 15) (.leaf (nat_lit 23, nat_lit 12, nat_lit 2, nat_lit 361, nat_lit 8121, nat_lit 268, [])) (.leaf (nat_lit 8, nat_lit 15, nat_lit 0, nat_lit 27, nat_lit 0, nat_lit 0, []))) (.branch (nat_lit 19) (.leaf (nat_lit 1, nat_lit 18, nat_lit 4, nat_lit 0, nat_lit 0, nat_lit 0, [])) (.leaf (nat_lit 1, nat_lit 19, nat_lit 0, nat_lit 1, nat_lit 0, nat_lit 0, [])))) (.branch (nat_lit 24) (.branch (nat_lit 23) (.leaf (nat_lit 23, nat_lit 20, nat_lit 2, nat_lit 365, nat_lit 8146, nat_lit 270, [])) (.leaf (nat_lit 6, nat_lit 23, nat_lit 1, nat_lit 0, nat_lit 0, nat_lit 0, []))) (.branch (nat_lit 33) (.leaf (nat_lit 10, nat_lit 24, nat_lit 0, nat_lit 33, nat_lit 0, nat_lit 0, [])) (.leaf (nat_lit 24, nat_lit 33, nat_lit 1, nat_lit 0, nat_lit 0, nat_lit 0, [])))))), [nat_lit 8145, nat_lit 1013, nat_lit 8143, nat_lit 8144])
set_option maxRecDepth 100000 in
def q_M273 : qM × List Nat := ((yX11_explain, cX11_explain, nat_lit 6, some .int, nat_lit 11, nat_lit 2, nat_lit 1, nat_lit 0, nat_lit 0, .branch (nat_lit 42) (.branch (nat_lit 15) (.branch (nat_lit 6) (.branch (nat_lit 2) (.branch (nat_lit 1) (.leaf (nat_lit 1, nat_lit 0, nat_lit 4, nat_lit 0, nat_lit 0, nat_lit 0, [])) (.leaf (nat_lit 0, nat_lit 1, nat_lit 0, nat_lit 0, nat_lit 0, nat_lit 0, []))) (.branch (nat_lit 5) (.leaf (nat_lit 15, nat_lit 2, nat_lit 11, nat_lit 93, nat_lit 1, nat_lit 6102, [nat_lit 0])) (.leaf (nat_lit 1, nat_lit 5, nat_lit 4, nat_lit 0, nat_lit 0, nat_lit 0, [])))) (.branch (nat_lit 10) (.branch (nat_lit 7) (.leaf (nat_lit 0, nat_lit 6, nat_lit 0, nat_lit 0, nat_lit 0, nat_lit 0, [])) (.leaf (nat_lit 15, nat_lit 7, nat_lit 11, nat_lit 96, nat_lit 0, nat_lit 6101, [nat_lit 0]))) (.branch (nat_lit 11) (.leaf (nat_lit 1, nat_lit 10, nat_lit 4, nat_lit 0, nat_lit 0, nat_lit 0, [])) (.branch (nat_lit 12) (.leaf (nat_lit 1, nat_lit 11, nat_lit 0, nat_lit 1, nat_lit 0, nat_lit 0, [])) (.leaf (nat_lit 23, nat_lit 12, nat_lit 2, nat_lit 361, nat_lit 8121, nat_lit 268, [])))))) (.branch (nat_lit 31) (.branch (nat_lit 26) (.branch (nat_lit 25) (.leaf (nat_lit 8, nat_lit 15, nat_lit 1, nat_lit 25, nat_lit 0, nat_lit 0, [])) (.leaf (nat_lit 1, nat_lit 25, nat_lit 4, nat_lit 0, nat_lit 0, nat_lit 0, []))) (.branch (nat_lit 29) (.leaf (nat_lit 23, nat_lit 26, nat_lit 2, nat_lit 288, nat_lit 7236, nat_lit 235, [])) (.branch (nat_lit 30) (.leaf (nat_lit 2, nat_lit 29, nat_lit 0, nat_lit 2, nat_lit 0, nat_lit 0, [])) (.leaf (nat_lit 1, nat_lit 30, nat_lit 0, nat_lit 1, nat_lit 0, nat_lit 0, []))))) (.branch (nat_lit 35) (.branch (nat_lit 34) (.leaf (nat_lit 8, nat_lit 31, nat_lit 0, nat_lit 38, nat_lit 0, nat_lit 0, [])) (.leaf (nat_lit 0, nat_lit 34, nat_lit 0, nat_lit 1, nat_lit 0, nat_lit 0, []))) (.branch (nat_lit 38) (.leaf (nat_lit 10, nat_lit 35, nat_lit 0, nat_lit 44, nat_lit 0, nat_lit 0, [])) (.branch (nat_lit 39) (.leaf (nat_lit 1, nat_lit 38, nat_lit 4, nat_lit 0, nat_lit 0, nat_lit 0, [])) (.leaf (nat_lit 14, nat_lit 39, nat_lit 11, nat_lit 35, nat_lit 20, nat_lit 6121, []))))))) (.branch (nat_lit 70) (.branch (nat_lit 46) (.branch (nat_lit 44) (.branch (nat_lit 43) (.leaf (nat_lit 0, nat_lit 42, nat_lit 0, nat_lit 1, nat_lit 0, nat_lit 0, [])) (.leaf (nat_lit 20, nat_lit 43, nat_lit 0, nat_lit 0, nat_lit 0, nat_lit 0, []))) (.branch (nat_lit 45) (.leaf (nat_lit 2, nat_lit 44, nat_lit 0, nat_lit 3, nat_lit 0, nat_lit 0, [])) (.leaf (nat_lit 1, nat_lit 45, nat_lit 0, nat_lit 2, nat_lit 0, nat_lit 0, [])))) (.branch (nat_lit 65) (.branch (nat_lit 64) (.leaf (nat_lit 8, nat_lit 46, nat_lit 5, nat_lit 64, nat_lit 0, nat_lit 0, [])) (.leaf (nat_lit 1, nat_lit 64, nat_lit 4, nat_lit 0, nat_lit 0, nat_lit 0, []))) (.branch (nat_lit 66) (.leaf (nat_lit 1, nat_lit 65, nat_lit 0, nat_lit 3, nat_lit 0, nat_lit 0, [])) (.branch (nat_lit 69) (.leaf (nat_lit 15, nat_lit 66, nat_lit 11, nat_lit 65, nat_lit 33, nat_lit 6134, [nat_lit 0])) (.leaf (nat_lit 1, nat_lit 69, nat_lit 4, nat_lit 0, nat_lit 0, nat_lit 0, [])))))) (.branch (nat_lit 79) (.branch (nat_lit 74) (.branch (nat_lit 71) (.leaf (nat_lit 0, nat_lit 70, nat_lit 0, nat_lit 0, nat_lit 0, nat_lit 0, [])) (.leaf (nat_lit 15, nat_lit 71, nat_lit 11, nat_lit 372, nat_lit 32, nat_lit 6133, [nat_lit 0]))) (.branch (nat_lit 75) (.leaf (nat_lit 0, nat_lit 74, nat_lit 0, nat_lit 1, nat_lit 0, nat_lit 0, [])) (.branch (nat_lit 77) (.leaf (nat_lit 2, nat_lit 75, nat_lit 1, nat_lit 4, nat_lit 0, nat_lit 0, [])) (.leaf (nat_lit 1, nat_lit 77, nat_lit 1, nat_lit 4, nat_lit 0, nat_lit 0, []))))) (.branch (nat_lit 207) (.branch (nat_lit 80) (.leaf (nat_lit 1, nat_lit 79, nat_lit 0, nat_lit 2, nat_lit 0, nat_lit 0, [])) (.leaf (nat_lit 9, nat_lit 80, nat_lit 3, nat_lit 207, nat_lit 0, nat_lit 0, []))) (.branch (nat_lit 208) (.leaf (nat_lit 1, nat_lit 207, nat_lit 4, nat_lit 0, nat_lit 0, nat_lit 0, [])) (.branch (nat_lit 211) (.leaf (nat_lit 14, nat_lit 208, nat_lit 11, nat_lit 372, nat_lit 32, nat_lit 6133, [])) (.leaf (nat_lit 24, nat_lit 211, nat_lit 1, nat_lit 0, nat_lit 0, nat_lit 0, [])))))))), [nat_lit 8153, nat_lit 1013, nat_lit 8151, nat_lit 8152])
set_option maxRecDepth 100000 in
def q_M274 : qM × List Nat := ((yX11_slipAt, cX11_slipAt, nat_lit 3, some .int, nat_lit 11, nat_lit 2, nat_lit 2, nat_lit 0, nat_lit 0, .branch (nat_lit 25) (.branch (nat_lit 11) (.branch (nat_lit 5) (.branch (nat_lit 1) (.leaf (nat_lit 1, nat_lit 0, nat_lit 4, nat_lit 0, nat_lit 0, nat_lit 0, [])) (.branch (nat_lit 2) (.leaf (nat_lit 0, nat_lit 1, nat_lit 0, nat_lit 0, nat_lit 0, nat_lit 0, [])) (.leaf (nat_lit 15, nat_lit 2, nat_lit 11, nat_lit 93, nat_lit 1, nat_lit 6102, [nat_lit 0])))) (.branch (nat_lit 7) (.branch (nat_lit 6) (.leaf (nat_lit 1, nat_lit 5, nat_lit 4, nat_lit 0, nat_lit 0, nat_lit 0, [])) (.leaf (nat_lit 0, nat_lit 6, nat_lit 0, nat_lit 0, nat_lit 0, nat_lit 0, []))) (.branch (nat_lit 10) (.leaf (nat_lit 15, nat_lit 7, nat_lit 11, nat_lit 96, nat_lit 0, nat_lit 6101, [nat_lit 0])) (.leaf (nat_lit 1, nat_lit 10, nat_lit 0, nat_lit 2, nat_lit 0, nat_lit 0, []))))) (.branch (nat_lit 17) (.branch (nat_lit 13) (.branch (nat_lit 12) (.leaf (nat_lit 6, nat_lit 11, nat_lit 0, nat_lit 0, nat_lit 0, nat_lit 0, [])) (.leaf (nat_lit 0, nat_lit 12, nat_lit 3, nat_lit 0, nat_lit 0, nat_lit 0, []))) (.branch (nat_lit 14) (.leaf (nat_lit 0, nat_lit 13, nat_lit 3, nat_lit 1, nat_lit 0, nat_lit 0, [])) (.leaf (nat_lit 23, nat_lit 14, nat_lit 0, nat_lit 128, nat_lit 7133, nat_lit 183, [])))) (.branch (nat_lit 21) (.branch (nat_lit 20) (.leaf (nat_lit 8, nat_lit 17, nat_lit 1, nat_lit 26, nat_lit 0, nat_lit 0, [])) (.leaf (nat_lit 1, nat_lit 20, nat_lit 4, nat_lit 0, nat_lit 0, nat_lit 0, []))) (.branch (nat_lit 22) (.leaf (nat_lit 0, nat_lit 21, nat_lit 0, nat_lit 5, nat_lit 0, nat_lit 0, [])) (.leaf (nat_lit 23, nat_lit 22, nat_lit 2, nat_lit 312, nat_lit 8004, nat_lit 181, [])))))) (.branch (nat_lit 34) (.branch (nat_lit 28) (.branch (nat_lit 26) (.leaf (nat_lit 24, nat_lit 25, nat_lit 1, nat_lit 0, nat_lit 0, nat_lit 0, [])) (.branch (nat_lit 27) (.leaf (nat_lit 1, nat_lit 26, nat_lit 0, nat_lit 1, nat_lit 0, nat_lit 0, [])) (.leaf (nat_lit 6, nat_lit 27, nat_lit 0, nat_lit 0, nat_lit 0, nat_lit 0, [])))) (.branch (nat_lit 30) (.branch (nat_lit 29) (.leaf (nat_lit 0, nat_lit 28, nat_lit 3, nat_lit 0, nat_lit 0, nat_lit 0, [])) (.leaf (nat_lit 1, nat_lit 29, nat_lit 4, nat_lit 0, nat_lit 0, nat_lit 0, []))) (.branch (nat_lit 33) (.leaf (nat_lit 14, nat_lit 30, nat_lit 11, nat_lit 372, nat_lit 32, nat_lit 6133, [])) (.leaf (nat_lit 0, nat_lit 33, nat_lit 0, nat_lit 1, nat_lit 0, nat_lit 0, []))))) (.branch (nat_lit 64) (.branch (nat_lit 36) (.branch (nat_lit 35) (.leaf (nat_lit 4, nat_lit 34, nat_lit 1, nat_lit 0, nat_lit 0, nat_lit 0, [])) (.leaf (nat_lit 6, nat_lit 35, nat_lit 0, nat_lit 0, nat_lit 0, nat_lit 0, []))) (.branch (nat_lit 39) (.leaf (nat_lit 23, nat_lit 36, nat_lit 0, nat_lit 128, nat_lit 7133, nat_lit 183, [])) (.leaf (nat_lit 8, nat_lit 39, nat_lit 0, nat_lit 64, nat_lit 0, nat_lit 0, [])))) (.branch (nat_lit 67) (.branch (nat_lit 65) (.leaf (nat_lit 1, nat_lit 64, nat_lit 4, nat_lit 0, nat_lit 0, nat_lit 0, [])) (.leaf (nat_lit 0, nat_lit 65, nat_lit 1, nat_lit 8, nat_lit 0, nat_lit 0, []))) (.branch (nat_lit 70) (.leaf (nat_lit 23, nat_lit 67, nat_lit 2, nat_lit 312, nat_lit 8004, nat_lit 181, [])) (.leaf (nat_lit 24, nat_lit 70, nat_lit 1, nat_lit 0, nat_lit 0, nat_lit 0, []))))))), [nat_lit 8161, nat_lit 1013, nat_lit 8159, nat_lit 8160])
set_option maxRecDepth 100000 in
def q_M275 : qM × List Nat := ((yX11_firstCount, cX11_firstCount, nat_lit 1, some .int, nat_lit 11, nat_lit 2, nat_lit 0, nat_lit 0, nat_lit 0, .branch (nat_lit 11) (.branch (nat_lit 5) (.branch (nat_lit 1) (.leaf (nat_lit 1, nat_lit 0, nat_lit 4, nat_lit 0, nat_lit 0, nat_lit 0, [])) (.branch (nat_lit 2) (.leaf (nat_lit 0, nat_lit 1, nat_lit 0, nat_lit 0, nat_lit 0, nat_lit 0, [])) (.leaf (nat_lit 15, nat_lit 2, nat_lit 11, nat_lit 93, nat_lit 1, nat_lit 6102, [nat_lit 0])))) (.branch (nat_lit 7) (.branch (nat_lit 6) (.leaf (nat_lit 1, nat_lit 5, nat_lit 4, nat_lit 0, nat_lit 0, nat_lit 0, [])) (.leaf (nat_lit 0, nat_lit 6, nat_lit 0, nat_lit 0, nat_lit 0, nat_lit 0, []))) (.branch (nat_lit 10) (.leaf (nat_lit 15, nat_lit 7, nat_lit 11, nat_lit 96, nat_lit 0, nat_lit 6101, [nat_lit 0])) (.leaf (nat_lit 1, nat_lit 10, nat_lit 4, nat_lit 0, nat_lit 0, nat_lit 0, []))))) (.branch (nat_lit 18) (.branch (nat_lit 14) (.leaf (nat_lit 14, nat_lit 11, nat_lit 11, nat_lit 65, nat_lit 33, nat_lit 6134, [])) (.branch (nat_lit 17) (.leaf (nat_lit 8, nat_lit 14, nat_lit 3, nat_lit 26, nat_lit 0, nat_lit 0, [])) (.leaf (nat_lit 1, nat_lit 17, nat_lit 4, nat_lit 0, nat_lit 0, nat_lit 0, [])))) (.branch (nat_lit 23) (.branch (nat_lit 20) (.leaf (nat_lit 0, nat_lit 18, nat_lit 1, nat_lit 8, nat_lit 0, nat_lit 0, [])) (.leaf (nat_lit 23, nat_lit 20, nat_lit 2, nat_lit 312, nat_lit 8004, nat_lit 181, []))) (.branch (nat_lit 30) (.leaf (nat_lit 10, nat_lit 23, nat_lit 0, nat_lit 30, nat_lit 0, nat_lit 0, [])) (.leaf (nat_lit 24, nat_lit 30, nat_lit 1, nat_lit 0, nat_lit 0, nat_lit 0, [])))))), [nat_lit 8165, nat_lit 1013, nat_lit 8163, nat_lit 8164])
set_option maxRecDepth 100000 in
def q_M276 : qM × List Nat := ((yX11_sure, cX11_sure, nat_lit 5, some .int, nat_lit 11, nat_lit 2, nat_lit 2, nat_lit 0, nat_lit 0, .branch (nat_lit 11) (.branch (nat_lit 5) (.branch (nat_lit 1) (.leaf (nat_lit 1, nat_lit 0, nat_lit 4, nat_lit 0, nat_lit 0, nat_lit 0, [])) (.branch (nat_lit 2) (.leaf (nat_lit 0, nat_lit 1, nat_lit 0, nat_lit 0, nat_lit 0, nat_lit 0, [])) (.leaf (nat_lit 15, nat_lit 2, nat_lit 11, nat_lit 93, nat_lit 1, nat_lit 6102, [nat_lit 0])))) (.branch (nat_lit 7) (.branch (nat_lit 6) (.leaf (nat_lit 1, nat_lit 5, nat_lit 4, nat_lit 0, nat_lit 0, nat_lit 0, [])) (.leaf (nat_lit 0, nat_lit 6, nat_lit 0, nat_lit 0, nat_lit 0, nat_lit 0, []))) (.branch (nat_lit 10) (.leaf (nat_lit 15, nat_lit 7, nat_lit 11, nat_lit 96, nat_lit 0, nat_lit 6101, [nat_lit 0])) (.leaf (nat_lit 1, nat_lit 10, nat_lit 4, nat_lit 0, nat_lit 0, nat_lit 0, []))))) (.branch (nat_lit 18) (.branch (nat_lit 12) (.leaf (nat_lit 1, nat_lit 11, nat_lit 0, nat_lit 1, nat_lit 0, nat_lit 0, [])) (.branch (nat_lit 15) (.leaf (nat_lit 23, nat_lit 12, nat_lit 2, nat_lit 315, nat_lit 8012, nat_lit 236, [])) (.leaf (nat_lit 8, nat_lit 15, nat_lit 1, nat_lit 24, nat_lit 0, nat_lit 0, [])))) (.branch (nat_lit 20) (.branch (nat_lit 19) (.leaf (nat_lit 1, nat_lit 18, nat_lit 4, nat_lit 0, nat_lit 0, nat_lit 0, [])) (.leaf (nat_lit 0, nat_lit 19, nat_lit 0, nat_lit 2, nat_lit 0, nat_lit 0, []))) (.branch (nat_lit 23) (.leaf (nat_lit 23, nat_lit 20, nat_lit 2, nat_lit 312, nat_lit 8004, nat_lit 181, [])) (.leaf (nat_lit 24, nat_lit 23, nat_lit 1, nat_lit 0, nat_lit 0, nat_lit 0, [])))))), [nat_lit 8169, nat_lit 1013, nat_lit 8167, nat_lit 8168])
set_option maxRecDepth 100000 in
def q_M278 : qM × List Nat := ((yX11_blame, cX11_blame, nat_lit 5, some .boolean, nat_lit 11, nat_lit 2, nat_lit 2, nat_lit 0, nat_lit 0, .branch (nat_lit 17) (.branch (nat_lit 7) (.branch (nat_lit 2) (.branch (nat_lit 1) (.leaf (nat_lit 1, nat_lit 0, nat_lit 4, nat_lit 0, nat_lit 0, nat_lit 0, [])) (.leaf (nat_lit 0, nat_lit 1, nat_lit 0, nat_lit 0, nat_lit 0, nat_lit 0, []))) (.branch (nat_lit 5) (.leaf (nat_lit 15, nat_lit 2, nat_lit 11, nat_lit 93, nat_lit 1, nat_lit 6102, [nat_lit 0])) (.branch (nat_lit 6) (.leaf (nat_lit 1, nat_lit 5, nat_lit 4, nat_lit 0, nat_lit 0, nat_lit 0, [])) (.leaf (nat_lit 0, nat_lit 6, nat_lit 0, nat_lit 0, nat_lit 0, nat_lit 0, []))))) (.branch (nat_lit 12) (.branch (nat_lit 10) (.leaf (nat_lit 15, nat_lit 7, nat_lit 11, nat_lit 96, nat_lit 0, nat_lit 6101, [nat_lit 0])) (.branch (nat_lit 11) (.leaf (nat_lit 1, nat_lit 10, nat_lit 0, nat_lit 1, nat_lit 0, nat_lit 0, [])) (.leaf (nat_lit 6, nat_lit 11, nat_lit 0, nat_lit 0, nat_lit 0, nat_lit 0, [])))) (.branch (nat_lit 13) (.leaf (nat_lit 0, nat_lit 12, nat_lit 3, nat_lit 0, nat_lit 0, nat_lit 0, [])) (.branch (nat_lit 14) (.leaf (nat_lit 1, nat_lit 13, nat_lit 4, nat_lit 0, nat_lit 0, nat_lit 0, [])) (.leaf (nat_lit 14, nat_lit 14, nat_lit 11, nat_lit 35, nat_lit 20, nat_lit 6121, [])))))) (.branch (nat_lit 22) (.branch (nat_lit 19) (.branch (nat_lit 18) (.leaf (nat_lit 0, nat_lit 17, nat_lit 0, nat_lit 3, nat_lit 0, nat_lit 0, [])) (.leaf (nat_lit 20, nat_lit 18, nat_lit 0, nat_lit 0, nat_lit 0, nat_lit 0, []))) (.branch (nat_lit 20) (.leaf (nat_lit 0, nat_lit 19, nat_lit 0, nat_lit 1, nat_lit 0, nat_lit 0, [])) (.branch (nat_lit 21) (.leaf (nat_lit 4, nat_lit 20, nat_lit 1, nat_lit 0, nat_lit 0, nat_lit 0, [])) (.leaf (nat_lit 6, nat_lit 21, nat_lit 0, nat_lit 0, nat_lit 0, nat_lit 0, []))))) (.branch (nat_lit 29) (.branch (nat_lit 25) (.leaf (nat_lit 23, nat_lit 22, nat_lit 0, nat_lit 128, nat_lit 7133, nat_lit 183, [])) (.branch (nat_lit 28) (.leaf (nat_lit 8, nat_lit 25, nat_lit 1, nat_lit 34, nat_lit 0, nat_lit 0, [])) (.leaf (nat_lit 1, nat_lit 28, nat_lit 4, nat_lit 0, nat_lit 0, nat_lit 0, [])))) (.branch (nat_lit 30) (.leaf (nat_lit 0, nat_lit 29, nat_lit 0, nat_lit 2, nat_lit 0, nat_lit 0, [])) (.branch (nat_lit 33) (.leaf (nat_lit 23, nat_lit 30, nat_lit 2, nat_lit 108, nat_lit 7038, nat_lit 182, [])) (.leaf (nat_lit 24, nat_lit 33, nat_lit 1, nat_lit 0, nat_lit 0, nat_lit 0, []))))))), [nat_lit 8173, nat_lit 1013, nat_lit 8171, nat_lit 8172])
set_option maxRecDepth 100000 in
def q_M279 : qM × List Nat := ((yX11_isOathFor, cX11_isOathFor, nat_lit 4, some .boolean, nat_lit 11, nat_lit 2, nat_lit 2, nat_lit 0, nat_lit 0, .branch (nat_lit 4) (.branch (nat_lit 2) (.branch (nat_lit 1) (.leaf (nat_lit 0, nat_lit 0, nat_lit 0, nat_lit 0, nat_lit 0, nat_lit 0, [])) (.leaf (nat_lit 2, nat_lit 1, nat_lit 0, nat_lit 3, nat_lit 0, nat_lit 0, []))) (.branch (nat_lit 3) (.leaf (nat_lit 1, nat_lit 2, nat_lit 0, nat_lit 3, nat_lit 0, nat_lit 0, [])) (.leaf (nat_lit 1, nat_lit 3, nat_lit 4, nat_lit 0, nat_lit 0, nat_lit 0, [])))) (.branch (nat_lit 64) (.branch (nat_lit 7) (.leaf (nat_lit 23, nat_lit 4, nat_lit 2, nat_lit 288, nat_lit 7236, nat_lit 235, [])) (.leaf (nat_lit 9, nat_lit 7, nat_lit 3, nat_lit 64, nat_lit 0, nat_lit 0, []))) (.branch (nat_lit 65) (.leaf (nat_lit 0, nat_lit 64, nat_lit 0, nat_lit 1, nat_lit 0, nat_lit 0, [])) (.leaf (nat_lit 24, nat_lit 65, nat_lit 1, nat_lit 0, nat_lit 0, nat_lit 0, []))))), [nat_lit 8192, nat_lit 1013, nat_lit 8191, nat_lit 107])
set_option maxRecDepth 100000 in
def q_M280 : qM × List Nat := ((yX11_oaths, cX11_oaths, nat_lit 4, some .int, nat_lit 11, nat_lit 2, nat_lit 0, nat_lit 0, nat_lit 0, .branch (nat_lit 24) (.branch (nat_lit 12) (.branch (nat_lit 6) (.branch (nat_lit 2) (.branch (nat_lit 1) (.leaf (nat_lit 1, nat_lit 0, nat_lit 4, nat_lit 0, nat_lit 0, nat_lit 0, [])) (.leaf (nat_lit 0, nat_lit 1, nat_lit 0, nat_lit 0, nat_lit 0, nat_lit 0, []))) (.branch (nat_lit 5) (.leaf (nat_lit 15, nat_lit 2, nat_lit 11, nat_lit 93, nat_lit 1, nat_lit 6102, [nat_lit 0])) (.leaf (nat_lit 1, nat_lit 5, nat_lit 4, nat_lit 0, nat_lit 0, nat_lit 0, [])))) (.branch (nat_lit 10) (.branch (nat_lit 7) (.leaf (nat_lit 0, nat_lit 6, nat_lit 0, nat_lit 0, nat_lit 0, nat_lit 0, [])) (.leaf (nat_lit 15, nat_lit 7, nat_lit 11, nat_lit 96, nat_lit 0, nat_lit 6101, [nat_lit 0]))) (.branch (nat_lit 11) (.leaf (nat_lit 0, nat_lit 10, nat_lit 0, nat_lit 0, nat_lit 0, nat_lit 0, [])) (.leaf (nat_lit 2, nat_lit 11, nat_lit 0, nat_lit 1, nat_lit 0, nat_lit 0, []))))) (.branch (nat_lit 17) (.branch (nat_lit 14) (.branch (nat_lit 13) (.leaf (nat_lit 0, nat_lit 12, nat_lit 0, nat_lit 2, nat_lit 0, nat_lit 0, [])) (.leaf (nat_lit 2, nat_lit 13, nat_lit 0, nat_lit 2, nat_lit 0, nat_lit 0, []))) (.branch (nat_lit 15) (.leaf (nat_lit 1, nat_lit 14, nat_lit 0, nat_lit 2, nat_lit 0, nat_lit 0, [])) (.leaf (nat_lit 0, nat_lit 15, nat_lit 1, nat_lit 13, nat_lit 0, nat_lit 0, [])))) (.branch (nat_lit 21) (.branch (nat_lit 20) (.leaf (nat_lit 9, nat_lit 17, nat_lit 4, nat_lit 56, nat_lit 0, nat_lit 0, [])) (.leaf (nat_lit 0, nat_lit 20, nat_lit 0, nat_lit 1, nat_lit 0, nat_lit 0, []))) (.branch (nat_lit 22) (.leaf (nat_lit 2, nat_lit 21, nat_lit 0, nat_lit 3, nat_lit 0, nat_lit 0, [])) (.branch (nat_lit 23) (.leaf (nat_lit 1, nat_lit 22, nat_lit 0, nat_lit 3, nat_lit 0, nat_lit 0, [])) (.leaf (nat_lit 1, nat_lit 23, nat_lit 0, nat_lit 2, nat_lit 0, nat_lit 0, []))))))) (.branch (nat_lit 38) (.branch (nat_lit 30) (.branch (nat_lit 28) (.branch (nat_lit 27) (.leaf (nat_lit 9, nat_lit 24, nat_lit 4, nat_lit 50, nat_lit 0, nat_lit 0, [])) (.leaf (nat_lit 1, nat_lit 27, nat_lit 0, nat_lit 1, nat_lit 0, nat_lit 0, []))) (.branch (nat_lit 29) (.leaf (nat_lit 1, nat_lit 28, nat_lit 4, nat_lit 0, nat_lit 0, nat_lit 0, [])) (.leaf (nat_lit 1, nat_lit 29, nat_lit 0, nat_lit 2, nat_lit 0, nat_lit 0, [])))) (.branch (nat_lit 34) (.branch (nat_lit 31) (.leaf (nat_lit 1, nat_lit 30, nat_lit 0, nat_lit 3, nat_lit 0, nat_lit 0, [])) (.leaf (nat_lit 23, nat_lit 31, nat_lit 2, nat_lit 383, nat_lit 8189, nat_lit 279, []))) (.branch (nat_lit 37) (.leaf (nat_lit 8, nat_lit 34, nat_lit 0, nat_lit 41, nat_lit 0, nat_lit 0, [])) (.leaf (nat_lit 0, nat_lit 37, nat_lit 0, nat_lit 1, nat_lit 0, nat_lit 0, []))))) (.branch (nat_lit 47) (.branch (nat_lit 43) (.branch (nat_lit 42) (.leaf (nat_lit 10, nat_lit 38, nat_lit 0, nat_lit 42, nat_lit 0, nat_lit 0, [])) (.leaf (nat_lit 4, nat_lit 42, nat_lit 0, nat_lit 0, nat_lit 0, nat_lit 0, []))) (.branch (nat_lit 44) (.leaf (nat_lit 2, nat_lit 43, nat_lit 0, nat_lit 1, nat_lit 0, nat_lit 0, [])) (.leaf (nat_lit 3, nat_lit 44, nat_lit 0, nat_lit 3, nat_lit 1, nat_lit 0, [])))) (.branch (nat_lit 53) (.branch (nat_lit 50) (.leaf (nat_lit 10, nat_lit 47, nat_lit 0, nat_lit 22, nat_lit 0, nat_lit 0, [])) (.leaf (nat_lit 3, nat_lit 50, nat_lit 0, nat_lit 2, nat_lit 1, nat_lit 0, []))) (.branch (nat_lit 56) (.leaf (nat_lit 10, nat_lit 53, nat_lit 0, nat_lit 14, nat_lit 0, nat_lit 0, [])) (.branch (nat_lit 57) (.leaf (nat_lit 1, nat_lit 56, nat_lit 0, nat_lit 1, nat_lit 0, nat_lit 0, [])) (.leaf (nat_lit 24, nat_lit 57, nat_lit 1, nat_lit 0, nat_lit 0, nat_lit 0, [])))))))), [nat_lit 8188, nat_lit 1013, nat_lit 8186, nat_lit 8187])
set_option maxRecDepth 100000 in
def q_M281 : qM × List Nat := ((yX11_oathAt, cX11_oathAt, nat_lit 6, some .int, nat_lit 11, nat_lit 2, nat_lit 2, nat_lit 0, nat_lit 0, .branch (nat_lit 41) (.branch (nat_lit 20) (.branch (nat_lit 10) (.branch (nat_lit 5) (.branch (nat_lit 1) (.leaf (nat_lit 1, nat_lit 0, nat_lit 4, nat_lit 0, nat_lit 0, nat_lit 0, [])) (.branch (nat_lit 2) (.leaf (nat_lit 0, nat_lit 1, nat_lit 0, nat_lit 0, nat_lit 0, nat_lit 0, [])) (.leaf (nat_lit 15, nat_lit 2, nat_lit 11, nat_lit 93, nat_lit 1, nat_lit 6102, [nat_lit 0])))) (.branch (nat_lit 6) (.leaf (nat_lit 1, nat_lit 5, nat_lit 4, nat_lit 0, nat_lit 0, nat_lit 0, [])) (.branch (nat_lit 7) (.leaf (nat_lit 0, nat_lit 6, nat_lit 0, nat_lit 0, nat_lit 0, nat_lit 0, [])) (.leaf (nat_lit 15, nat_lit 7, nat_lit 11, nat_lit 96, nat_lit 0, nat_lit 6101, [nat_lit 0]))))) (.branch (nat_lit 13) (.branch (nat_lit 11) (.leaf (nat_lit 1, nat_lit 10, nat_lit 0, nat_lit 2, nat_lit 0, nat_lit 0, [])) (.branch (nat_lit 12) (.leaf (nat_lit 6, nat_lit 11, nat_lit 0, nat_lit 0, nat_lit 0, nat_lit 0, [])) (.leaf (nat_lit 0, nat_lit 12, nat_lit 3, nat_lit 0, nat_lit 0, nat_lit 0, [])))) (.branch (nat_lit 14) (.leaf (nat_lit 0, nat_lit 13, nat_lit 3, nat_lit 1, nat_lit 0, nat_lit 0, [])) (.branch (nat_lit 17) (.leaf (nat_lit 23, nat_lit 14, nat_lit 0, nat_lit 128, nat_lit 7133, nat_lit 183, [])) (.leaf (nat_lit 8, nat_lit 17, nat_lit 1, nat_lit 26, nat_lit 0, nat_lit 0, [])))))) (.branch (nat_lit 28) (.branch (nat_lit 25) (.branch (nat_lit 21) (.leaf (nat_lit 1, nat_lit 20, nat_lit 4, nat_lit 0, nat_lit 0, nat_lit 0, [])) (.branch (nat_lit 22) (.leaf (nat_lit 0, nat_lit 21, nat_lit 0, nat_lit 5, nat_lit 0, nat_lit 0, [])) (.leaf (nat_lit 23, nat_lit 22, nat_lit 2, nat_lit 312, nat_lit 8004, nat_lit 181, [])))) (.branch (nat_lit 26) (.leaf (nat_lit 24, nat_lit 25, nat_lit 1, nat_lit 0, nat_lit 0, nat_lit 0, [])) (.branch (nat_lit 27) (.leaf (nat_lit 0, nat_lit 26, nat_lit 0, nat_lit 0, nat_lit 0, nat_lit 0, [])) (.leaf (nat_lit 2, nat_lit 27, nat_lit 0, nat_lit 3, nat_lit 0, nat_lit 0, []))))) (.branch (nat_lit 33) (.branch (nat_lit 29) (.leaf (nat_lit 0, nat_lit 28, nat_lit 0, nat_lit 2, nat_lit 0, nat_lit 0, [])) (.branch (nat_lit 31) (.leaf (nat_lit 2, nat_lit 29, nat_lit 1, nat_lit 4, nat_lit 0, nat_lit 0, [])) (.leaf (nat_lit 1, nat_lit 31, nat_lit 1, nat_lit 4, nat_lit 0, nat_lit 0, [])))) (.branch (nat_lit 38) (.branch (nat_lit 35) (.leaf (nat_lit 0, nat_lit 33, nat_lit 1, nat_lit 13, nat_lit 0, nat_lit 0, [])) (.leaf (nat_lit 9, nat_lit 35, nat_lit 4, nat_lit 94, nat_lit 0, nat_lit 0, []))) (.branch (nat_lit 39) (.leaf (nat_lit 0, nat_lit 38, nat_lit 0, nat_lit 1, nat_lit 0, nat_lit 0, [])) (.leaf (nat_lit 2, nat_lit 39, nat_lit 1, nat_lit 5, nat_lit 0, nat_lit 0, []))))))) (.branch (nat_lit 71) (.branch (nat_lit 53) (.branch (nat_lit 48) (.branch (nat_lit 43) (.leaf (nat_lit 1, nat_lit 41, nat_lit 1, nat_lit 5, nat_lit 0, nat_lit 0, [])) (.branch (nat_lit 45) (.leaf (nat_lit 1, nat_lit 43, nat_lit 1, nat_lit 4, nat_lit 0, nat_lit 0, [])) (.leaf (nat_lit 9, nat_lit 45, nat_lit 4, nat_lit 88, nat_lit 0, nat_lit 0, [])))) (.branch (nat_lit 49) (.leaf (nat_lit 1, nat_lit 48, nat_lit 4, nat_lit 0, nat_lit 0, nat_lit 0, [])) (.branch (nat_lit 51) (.leaf (nat_lit 1, nat_lit 49, nat_lit 1, nat_lit 4, nat_lit 0, nat_lit 0, [])) (.leaf (nat_lit 1, nat_lit 51, nat_lit 1, nat_lit 5, nat_lit 0, nat_lit 0, []))))) (.branch (nat_lit 63) (.branch (nat_lit 56) (.leaf (nat_lit 23, nat_lit 53, nat_lit 2, nat_lit 383, nat_lit 8189, nat_lit 279, [])) (.branch (nat_lit 62) (.leaf (nat_lit 8, nat_lit 56, nat_lit 1, nat_lit 62, nat_lit 0, nat_lit 0, [])) (.leaf (nat_lit 1, nat_lit 62, nat_lit 0, nat_lit 3, nat_lit 0, nat_lit 0, [])))) (.branch (nat_lit 67) (.branch (nat_lit 64) (.leaf (nat_lit 1, nat_lit 63, nat_lit 0, nat_lit 1, nat_lit 0, nat_lit 0, [])) (.leaf (nat_lit 9, nat_lit 64, nat_lit 1, nat_lit 79, nat_lit 0, nat_lit 0, []))) (.branch (nat_lit 68) (.leaf (nat_lit 1, nat_lit 67, nat_lit 0, nat_lit 2, nat_lit 0, nat_lit 0, [])) (.leaf (nat_lit 8, nat_lit 68, nat_lit 1, nat_lit 76, nat_lit 0, nat_lit 0, [])))))) (.branch (nat_lit 85) (.branch (nat_lit 78) (.branch (nat_lit 73) (.leaf (nat_lit 1, nat_lit 71, nat_lit 1, nat_lit 4, nat_lit 0, nat_lit 0, [])) (.branch (nat_lit 76) (.leaf (nat_lit 10, nat_lit 73, nat_lit 0, nat_lit 78, nat_lit 0, nat_lit 0, [])) (.leaf (nat_lit 1, nat_lit 76, nat_lit 1, nat_lit 5, nat_lit 0, nat_lit 0, [])))) (.branch (nat_lit 79) (.leaf (nat_lit 24, nat_lit 78, nat_lit 1, nat_lit 0, nat_lit 0, nat_lit 0, [])) (.branch (nat_lit 82) (.leaf (nat_lit 3, nat_lit 79, nat_lit 0, nat_lit 3, nat_lit 1, nat_lit 0, [])) (.leaf (nat_lit 3, nat_lit 82, nat_lit 0, nat_lit 5, nat_lit 1, nat_lit 0, []))))) (.branch (nat_lit 94) (.branch (nat_lit 88) (.leaf (nat_lit 10, nat_lit 85, nat_lit 0, nat_lit 41, nat_lit 0, nat_lit 0, [])) (.branch (nat_lit 91) (.leaf (nat_lit 3, nat_lit 88, nat_lit 0, nat_lit 4, nat_lit 1, nat_lit 0, [])) (.leaf (nat_lit 10, nat_lit 91, nat_lit 0, nat_lit 31, nat_lit 0, nat_lit 0, [])))) (.branch (nat_lit 97) (.branch (nat_lit 95) (.leaf (nat_lit 1, nat_lit 94, nat_lit 4, nat_lit 0, nat_lit 0, nat_lit 0, [])) (.leaf (nat_lit 0, nat_lit 95, nat_lit 1, nat_lit 8, nat_lit 0, nat_lit 0, []))) (.branch (nat_lit 100) (.leaf (nat_lit 23, nat_lit 97, nat_lit 2, nat_lit 312, nat_lit 8004, nat_lit 181, [])) (.leaf (nat_lit 24, nat_lit 100, nat_lit 1, nat_lit 0, nat_lit 0, nat_lit 0, [])))))))), [nat_lit 8196, nat_lit 1013, nat_lit 8194, nat_lit 8195])
set_option maxRecDepth 100000 in
def q_M283 : qM × List Nat := ((yX11_bestKnock, cX11_bestKnock, nat_lit 12, some .int, nat_lit 11, nat_lit 2, nat_lit 1, nat_lit 0, nat_lit 0, .branch (nat_lit 15) (.branch (nat_lit 6) (.branch (nat_lit 2) (.branch (nat_lit 1) (.leaf (nat_lit 1, nat_lit 0, nat_lit 4, nat_lit 0, nat_lit 0, nat_lit 0, [])) (.leaf (nat_lit 0, nat_lit 1, nat_lit 0, nat_lit 0, nat_lit 0, nat_lit 0, []))) (.branch (nat_lit 5) (.leaf (nat_lit 15, nat_lit 2, nat_lit 11, nat_lit 93, nat_lit 1, nat_lit 6102, [nat_lit 0])) (.leaf (nat_lit 1, nat_lit 5, nat_lit 4, nat_lit 0, nat_lit 0, nat_lit 0, [])))) (.branch (nat_lit 10) (.branch (nat_lit 7) (.leaf (nat_lit 0, nat_lit 6, nat_lit 0, nat_lit 0, nat_lit 0, nat_lit 0, [])) (.leaf (nat_lit 15, nat_lit 7, nat_lit 11, nat_lit 96, nat_lit 0, nat_lit 6101, [nat_lit 0]))) (.branch (nat_lit 11) (.leaf (nat_lit 1, nat_lit 10, nat_lit 4, nat_lit 0, nat_lit 0, nat_lit 0, [])) (.branch (nat_lit 12) (.leaf (nat_lit 1, nat_lit 11, nat_lit 0, nat_lit 1, nat_lit 0, nat_lit 0, [])) (.leaf (nat_lit 23, nat_lit 12, nat_lit 2, nat_lit 361, nat_lit 8121, nat_lit 268, [])))))) (.branch (nat_lit 26) (.branch (nat_lit 19) (.branch (nat_lit 18) (.leaf (nat_lit 8, nat_lit 15, nat_lit 0, nat_lit 29, nat_lit 0, nat_lit 0, [])) (.leaf (nat_lit 1, nat_lit 18, nat_lit 4, nat_lit 0, nat_lit 0, nat_lit 0, []))) (.branch (nat_lit 22) (.leaf (nat_lit 23, nat_lit 19, nat_lit 2, nat_lit 309, nat_lit 8000, nat_lit 247, [])) (.branch (nat_lit 23) (.leaf (nat_lit 1, nat_lit 22, nat_lit 4, nat_lit 0, nat_lit 0, nat_lit 0, [])) (.leaf (nat_lit 23, nat_lit 23, nat_lit 2, nat_lit 288, nat_lit 7236, nat_lit 235, []))))) (.branch (nat_lit 30) (.branch (nat_lit 29) (.leaf (nat_lit 9, nat_lit 26, nat_lit 1, nat_lit 36, nat_lit 0, nat_lit 0, [])) (.leaf (nat_lit 1, nat_lit 29, nat_lit 4, nat_lit 0, nat_lit 0, nat_lit 0, []))) (.branch (nat_lit 32) (.leaf (nat_lit 0, nat_lit 30, nat_lit 1, nat_lit 8, nat_lit 0, nat_lit 0, [])) (.branch (nat_lit 35) (.leaf (nat_lit 23, nat_lit 32, nat_lit 2, nat_lit 312, nat_lit 8004, nat_lit 181, [])) (.leaf (nat_lit 24, nat_lit 35, nat_lit 1, nat_lit 0, nat_lit 0, nat_lit 0, []))))))), [nat_lit 8200, nat_lit 1013, nat_lit 8198, nat_lit 8199])
set_option maxRecDepth 100000 in
def q_M287 : qM × List Nat := ((yX11_telling, cX11_telling, nat_lit 9, some .int, nat_lit 11, nat_lit 2, nat_lit 2, nat_lit 0, nat_lit 0, .branch (nat_lit 86) (.branch (nat_lit 31) (.branch (nat_lit 13) (.branch (nat_lit 6) (.branch (nat_lit 2) (.branch (nat_lit 1) (.leaf (nat_lit 1, nat_lit 0, nat_lit 4, nat_lit 0, nat_lit 0, nat_lit 0, [])) (.leaf (nat_lit 0, nat_lit 1, nat_lit 0, nat_lit 0, nat_lit 0, nat_lit 0, []))) (.branch (nat_lit 5) (.leaf (nat_lit 15, nat_lit 2, nat_lit 11, nat_lit 93, nat_lit 1, nat_lit 6102, [nat_lit 0])) (.leaf (nat_lit 1, nat_lit 5, nat_lit 4, nat_lit 0, nat_lit 0, nat_lit 0, [])))) (.branch (nat_lit 10) (.branch (nat_lit 7) (.leaf (nat_lit 0, nat_lit 6, nat_lit 0, nat_lit 0, nat_lit 0, nat_lit 0, [])) (.leaf (nat_lit 15, nat_lit 7, nat_lit 11, nat_lit 96, nat_lit 0, nat_lit 6101, [nat_lit 0]))) (.branch (nat_lit 11) (.leaf (nat_lit 1, nat_lit 10, nat_lit 0, nat_lit 2, nat_lit 0, nat_lit 0, [])) (.branch (nat_lit 12) (.leaf (nat_lit 6, nat_lit 11, nat_lit 0, nat_lit 0, nat_lit 0, nat_lit 0, [])) (.leaf (nat_lit 0, nat_lit 12, nat_lit 3, nat_lit 0, nat_lit 0, nat_lit 0, [])))))) (.branch (nat_lit 22) (.branch (nat_lit 17) (.branch (nat_lit 14) (.leaf (nat_lit 0, nat_lit 13, nat_lit 3, nat_lit 1, nat_lit 0, nat_lit 0, [])) (.leaf (nat_lit 23, nat_lit 14, nat_lit 0, nat_lit 128, nat_lit 7133, nat_lit 183, []))) (.branch (nat_lit 20) (.leaf (nat_lit 8, nat_lit 17, nat_lit 1, nat_lit 26, nat_lit 0, nat_lit 0, [])) (.branch (nat_lit 21) (.leaf (nat_lit 1, nat_lit 20, nat_lit 4, nat_lit 0, nat_lit 0, nat_lit 0, [])) (.leaf (nat_lit 0, nat_lit 21, nat_lit 0, nat_lit 5, nat_lit 0, nat_lit 0, []))))) (.branch (nat_lit 26) (.branch (nat_lit 25) (.leaf (nat_lit 23, nat_lit 22, nat_lit 2, nat_lit 312, nat_lit 8004, nat_lit 181, [])) (.leaf (nat_lit 24, nat_lit 25, nat_lit 1, nat_lit 0, nat_lit 0, nat_lit 0, []))) (.branch (nat_lit 27) (.leaf (nat_lit 1, nat_lit 26, nat_lit 4, nat_lit 0, nat_lit 0, nat_lit 0, [])) (.branch (nat_lit 28) (.leaf (nat_lit 1, nat_lit 27, nat_lit 0, nat_lit 1, nat_lit 0, nat_lit 0, [])) (.leaf (nat_lit 23, nat_lit 28, nat_lit 2, nat_lit 361, nat_lit 8121, nat_lit 268, []))))))) (.branch (nat_lit 65) (.branch (nat_lit 49) (.branch (nat_lit 42) (.branch (nat_lit 41) (.leaf (nat_lit 8, nat_lit 31, nat_lit 1, nat_lit 41, nat_lit 0, nat_lit 0, [])) (.leaf (nat_lit 1, nat_lit 41, nat_lit 4, nat_lit 0, nat_lit 0, nat_lit 0, []))) (.branch (nat_lit 43) (.leaf (nat_lit 1, nat_lit 42, nat_lit 0, nat_lit 1, nat_lit 0, nat_lit 0, [])) (.branch (nat_lit 46) (.leaf (nat_lit 23, nat_lit 43, nat_lit 2, nat_lit 365, nat_lit 8146, nat_lit 270, [])) (.leaf (nat_lit 0, nat_lit 46, nat_lit 6, nat_lit 400, nat_lit 12, nat_lit 8210, []))))) (.branch (nat_lit 60) (.branch (nat_lit 50) (.leaf (nat_lit 7, nat_lit 49, nat_lit 0, nat_lit 0, nat_lit 0, nat_lit 0, [])) (.leaf (nat_lit 8, nat_lit 50, nat_lit 5, nat_lit 60, nat_lit 0, nat_lit 0, []))) (.branch (nat_lit 61) (.leaf (nat_lit 1, nat_lit 60, nat_lit 4, nat_lit 0, nat_lit 0, nat_lit 0, [])) (.branch (nat_lit 62) (.leaf (nat_lit 0, nat_lit 61, nat_lit 0, nat_lit 0, nat_lit 0, nat_lit 0, [])) (.leaf (nat_lit 15, nat_lit 62, nat_lit 11, nat_lit 391, nat_lit 40, nat_lit 6141, [nat_lit 0])))))) (.branch (nat_lit 79) (.branch (nat_lit 69) (.branch (nat_lit 66) (.leaf (nat_lit 1, nat_lit 65, nat_lit 4, nat_lit 0, nat_lit 0, nat_lit 0, [])) (.leaf (nat_lit 23, nat_lit 66, nat_lit 2, nat_lit 288, nat_lit 7236, nat_lit 235, []))) (.branch (nat_lit 77) (.leaf (nat_lit 8, nat_lit 69, nat_lit 5, nat_lit 77, nat_lit 0, nat_lit 0, [])) (.branch (nat_lit 78) (.leaf (nat_lit 0, nat_lit 77, nat_lit 0, nat_lit 1, nat_lit 1, nat_lit 0, [])) (.leaf (nat_lit 2, nat_lit 78, nat_lit 0, nat_lit 3, nat_lit 0, nat_lit 0, []))))) (.branch (nat_lit 82) (.branch (nat_lit 80) (.leaf (nat_lit 0, nat_lit 79, nat_lit 0, nat_lit 0, nat_lit 0, nat_lit 0, [])) (.leaf (nat_lit 2, nat_lit 80, nat_lit 1, nat_lit 4, nat_lit 0, nat_lit 0, []))) (.branch (nat_lit 84) (.leaf (nat_lit 1, nat_lit 82, nat_lit 1, nat_lit 4, nat_lit 0, nat_lit 0, [])) (.branch (nat_lit 85) (.leaf (nat_lit 0, nat_lit 84, nat_lit 0, nat_lit 1, nat_lit 0, nat_lit 0, [])) (.leaf (nat_lit 1, nat_lit 85, nat_lit 4, nat_lit 0, nat_lit 0, nat_lit 0, [])))))))) (.branch (nat_lit 172) (.branch (nat_lit 102) (.branch (nat_lit 94) (.branch (nat_lit 90) (.branch (nat_lit 89) (.leaf (nat_lit 14, nat_lit 86, nat_lit 11, nat_lit 391, nat_lit 40, nat_lit 6141, [])) (.leaf (nat_lit 4, nat_lit 89, nat_lit 6, nat_lit 0, nat_lit 0, nat_lit 0, []))) (.branch (nat_lit 93) (.leaf (nat_lit 9, nat_lit 90, nat_lit 3, nat_lit 182, nat_lit 0, nat_lit 0, [])) (.leaf (nat_lit 0, nat_lit 93, nat_lit 0, nat_lit 1, nat_lit 1, nat_lit 0, [])))) (.branch (nat_lit 97) (.branch (nat_lit 96) (.leaf (nat_lit 2, nat_lit 94, nat_lit 1, nat_lit 5, nat_lit 0, nat_lit 0, [])) (.leaf (nat_lit 0, nat_lit 96, nat_lit 0, nat_lit 1, nat_lit 1, nat_lit 0, []))) (.branch (nat_lit 99) (.leaf (nat_lit 2, nat_lit 97, nat_lit 1, nat_lit 6, nat_lit 0, nat_lit 0, [])) (.branch (nat_lit 100) (.leaf (nat_lit 0, nat_lit 99, nat_lit 0, nat_lit 0, nat_lit 0, nat_lit 0, [])) (.leaf (nat_lit 2, nat_lit 100, nat_lit 1, nat_lit 7, nat_lit 0, nat_lit 0, [])))))) (.branch (nat_lit 161) (.branch (nat_lit 105) (.branch (nat_lit 104) (.leaf (nat_lit 1, nat_lit 102, nat_lit 1, nat_lit 7, nat_lit 0, nat_lit 0, [])) (.leaf (nat_lit 1, nat_lit 104, nat_lit 4, nat_lit 0, nat_lit 0, nat_lit 0, []))) (.branch (nat_lit 108) (.leaf (nat_lit 23, nat_lit 105, nat_lit 2, nat_lit 288, nat_lit 7236, nat_lit 235, [])) (.branch (nat_lit 160) (.leaf (nat_lit 9, nat_lit 108, nat_lit 3, nat_lit 160, nat_lit 0, nat_lit 0, [])) (.leaf (nat_lit 1, nat_lit 160, nat_lit 4, nat_lit 0, nat_lit 0, nat_lit 0, []))))) (.branch (nat_lit 166) (.branch (nat_lit 164) (.leaf (nat_lit 14, nat_lit 161, nat_lit 11, nat_lit 78, nat_lit 38, nat_lit 6139, [])) (.leaf (nat_lit 1, nat_lit 164, nat_lit 1, nat_lit 4, nat_lit 0, nat_lit 0, []))) (.branch (nat_lit 167) (.leaf (nat_lit 0, nat_lit 166, nat_lit 0, nat_lit 0, nat_lit 0, nat_lit 0, [])) (.branch (nat_lit 169) (.leaf (nat_lit 1, nat_lit 167, nat_lit 1, nat_lit 5, nat_lit 0, nat_lit 0, [])) (.leaf (nat_lit 23, nat_lit 169, nat_lit 0, nat_lit 333, nat_lit 8080, nat_lit 316, []))))))) (.branch (nat_lit 193) (.branch (nat_lit 182) (.branch (nat_lit 175) (.branch (nat_lit 173) (.leaf (nat_lit 21, nat_lit 172, nat_lit 0, nat_lit 0, nat_lit 0, nat_lit 0, [])) (.leaf (nat_lit 1, nat_lit 173, nat_lit 1, nat_lit 6, nat_lit 0, nat_lit 0, []))) (.branch (nat_lit 176) (.leaf (nat_lit 2, nat_lit 175, nat_lit 0, nat_lit 3, nat_lit 0, nat_lit 0, [])) (.branch (nat_lit 179) (.leaf (nat_lit 3, nat_lit 176, nat_lit 0, nat_lit 4, nat_lit 1, nat_lit 0, [])) (.leaf (nat_lit 10, nat_lit 179, nat_lit 0, nat_lit 82, nat_lit 0, nat_lit 0, []))))) (.branch (nat_lit 186) (.branch (nat_lit 183) (.leaf (nat_lit 1, nat_lit 182, nat_lit 0, nat_lit 2, nat_lit 0, nat_lit 0, [])) (.leaf (nat_lit 8, nat_lit 183, nat_lit 1, nat_lit 211, nat_lit 0, nat_lit 0, []))) (.branch (nat_lit 187) (.leaf (nat_lit 1, nat_lit 186, nat_lit 4, nat_lit 0, nat_lit 0, nat_lit 0, [])) (.branch (nat_lit 190) (.leaf (nat_lit 14, nat_lit 187, nat_lit 11, nat_lit 391, nat_lit 40, nat_lit 6141, [])) (.leaf (nat_lit 8, nat_lit 190, nat_lit 1, nat_lit 197, nat_lit 0, nat_lit 0, [])))))) (.branch (nat_lit 215) (.branch (nat_lit 210) (.branch (nat_lit 194) (.leaf (nat_lit 0, nat_lit 193, nat_lit 0, nat_lit 0, nat_lit 0, nat_lit 0, [])) (.leaf (nat_lit 10, nat_lit 194, nat_lit 0, nat_lit 210, nat_lit 0, nat_lit 0, []))) (.branch (nat_lit 211) (.leaf (nat_lit 24, nat_lit 210, nat_lit 1, nat_lit 0, nat_lit 0, nat_lit 0, [])) (.branch (nat_lit 212) (.leaf (nat_lit 1, nat_lit 211, nat_lit 0, nat_lit 3, nat_lit 0, nat_lit 0, [])) (.leaf (nat_lit 8, nat_lit 212, nat_lit 3, nat_lit 224, nat_lit 0, nat_lit 0, []))))) (.branch (nat_lit 218) (.branch (nat_lit 216) (.leaf (nat_lit 1, nat_lit 215, nat_lit 4, nat_lit 0, nat_lit 0, nat_lit 0, [])) (.leaf (nat_lit 0, nat_lit 216, nat_lit 1, nat_lit 8, nat_lit 0, nat_lit 0, []))) (.branch (nat_lit 221) (.leaf (nat_lit 23, nat_lit 218, nat_lit 2, nat_lit 312, nat_lit 8004, nat_lit 181, [])) (.branch (nat_lit 225) (.leaf (nat_lit 10, nat_lit 221, nat_lit 0, nat_lit 225, nat_lit 0, nat_lit 0, [])) (.leaf (nat_lit 24, nat_lit 225, nat_lit 1, nat_lit 0, nat_lit 0, nat_lit 0, []))))))))), [nat_lit 8209, nat_lit 1013, nat_lit 8207, nat_lit 8208])
set_option maxRecDepth 100000 in
def q_M289 : qM × List Nat := ((yX11_twice, cX11_twice, nat_lit 3, some .int, nat_lit 11, nat_lit 2, nat_lit 0, nat_lit 0, nat_lit 0, .branch (nat_lit 12) (.branch (nat_lit 6) (.branch (nat_lit 2) (.branch (nat_lit 1) (.leaf (nat_lit 1, nat_lit 0, nat_lit 4, nat_lit 0, nat_lit 0, nat_lit 0, [])) (.leaf (nat_lit 0, nat_lit 1, nat_lit 0, nat_lit 0, nat_lit 0, nat_lit 0, []))) (.branch (nat_lit 5) (.leaf (nat_lit 15, nat_lit 2, nat_lit 11, nat_lit 93, nat_lit 1, nat_lit 6102, [nat_lit 0])) (.leaf (nat_lit 1, nat_lit 5, nat_lit 4, nat_lit 0, nat_lit 0, nat_lit 0, [])))) (.branch (nat_lit 10) (.branch (nat_lit 7) (.leaf (nat_lit 0, nat_lit 6, nat_lit 0, nat_lit 0, nat_lit 0, nat_lit 0, [])) (.leaf (nat_lit 15, nat_lit 7, nat_lit 11, nat_lit 96, nat_lit 0, nat_lit 6101, [nat_lit 0]))) (.branch (nat_lit 11) (.leaf (nat_lit 0, nat_lit 10, nat_lit 0, nat_lit 0, nat_lit 0, nat_lit 0, [])) (.leaf (nat_lit 2, nat_lit 11, nat_lit 0, nat_lit 1, nat_lit 0, nat_lit 0, []))))) (.branch (nat_lit 16) (.branch (nat_lit 14) (.branch (nat_lit 13) (.leaf (nat_lit 0, nat_lit 12, nat_lit 0, nat_lit 1, nat_lit 0, nat_lit 0, [])) (.leaf (nat_lit 2, nat_lit 13, nat_lit 0, nat_lit 2, nat_lit 0, nat_lit 0, []))) (.branch (nat_lit 15) (.leaf (nat_lit 1, nat_lit 14, nat_lit 0, nat_lit 2, nat_lit 0, nat_lit 0, [])) (.leaf (nat_lit 1, nat_lit 15, nat_lit 4, nat_lit 0, nat_lit 0, nat_lit 0, [])))) (.branch (nat_lit 44) (.branch (nat_lit 19) (.leaf (nat_lit 23, nat_lit 16, nat_lit 2, nat_lit 288, nat_lit 7236, nat_lit 235, [])) (.leaf (nat_lit 9, nat_lit 19, nat_lit 3, nat_lit 44, nat_lit 0, nat_lit 0, []))) (.branch (nat_lit 45) (.leaf (nat_lit 1, nat_lit 44, nat_lit 0, nat_lit 1, nat_lit 0, nat_lit 0, [])) (.leaf (nat_lit 24, nat_lit 45, nat_lit 1, nat_lit 0, nat_lit 0, nat_lit 0, [])))))), [nat_lit 8226, nat_lit 1013, nat_lit 8224, nat_lit 8225])
set_option maxRecDepth 100000 in
def q_M290 : qM × List Nat := ((yX11_twiceAt, cX11_twiceAt, nat_lit 4, some .int, nat_lit 11, nat_lit 2, nat_lit 1, nat_lit 0, nat_lit 0, .branch (nat_lit 13) (.branch (nat_lit 6) (.branch (nat_lit 2) (.branch (nat_lit 1) (.leaf (nat_lit 1, nat_lit 0, nat_lit 4, nat_lit 0, nat_lit 0, nat_lit 0, [])) (.leaf (nat_lit 0, nat_lit 1, nat_lit 0, nat_lit 0, nat_lit 0, nat_lit 0, []))) (.branch (nat_lit 5) (.leaf (nat_lit 15, nat_lit 2, nat_lit 11, nat_lit 93, nat_lit 1, nat_lit 6102, [nat_lit 0])) (.leaf (nat_lit 1, nat_lit 5, nat_lit 4, nat_lit 0, nat_lit 0, nat_lit 0, [])))) (.branch (nat_lit 10) (.branch (nat_lit 7) (.leaf (nat_lit 0, nat_lit 6, nat_lit 0, nat_lit 0, nat_lit 0, nat_lit 0, [])) (.leaf (nat_lit 15, nat_lit 7, nat_lit 11, nat_lit 96, nat_lit 0, nat_lit 6101, [nat_lit 0]))) (.branch (nat_lit 11) (.leaf (nat_lit 0, nat_lit 10, nat_lit 0, nat_lit 0, nat_lit 0, nat_lit 0, [])) (.branch (nat_lit 12) (.leaf (nat_lit 2, nat_lit 11, nat_lit 0, nat_lit 2, nat_lit 0, nat_lit 0, [])) (.leaf (nat_lit 0, nat_lit 12, nat_lit 0, nat_lit 1, nat_lit 0, nat_lit 0, [])))))) (.branch (nat_lit 19) (.branch (nat_lit 15) (.branch (nat_lit 14) (.leaf (nat_lit 2, nat_lit 13, nat_lit 0, nat_lit 3, nat_lit 0, nat_lit 0, [])) (.leaf (nat_lit 1, nat_lit 14, nat_lit 0, nat_lit 3, nat_lit 0, nat_lit 0, []))) (.branch (nat_lit 16) (.leaf (nat_lit 1, nat_lit 15, nat_lit 4, nat_lit 0, nat_lit 0, nat_lit 0, [])) (.leaf (nat_lit 23, nat_lit 16, nat_lit 2, nat_lit 288, nat_lit 7236, nat_lit 235, [])))) (.branch (nat_lit 50) (.branch (nat_lit 49) (.leaf (nat_lit 9, nat_lit 19, nat_lit 3, nat_lit 49, nat_lit 0, nat_lit 0, [])) (.leaf (nat_lit 1, nat_lit 49, nat_lit 4, nat_lit 0, nat_lit 0, nat_lit 0, []))) (.branch (nat_lit 52) (.leaf (nat_lit 0, nat_lit 50, nat_lit 1, nat_lit 8, nat_lit 0, nat_lit 0, [])) (.branch (nat_lit 55) (.leaf (nat_lit 23, nat_lit 52, nat_lit 2, nat_lit 312, nat_lit 8004, nat_lit 181, [])) (.leaf (nat_lit 24, nat_lit 55, nat_lit 1, nat_lit 0, nat_lit 0, nat_lit 0, []))))))), [nat_lit 8234, nat_lit 1013, nat_lit 8232, nat_lit 8233])
set_option maxRecDepth 100000 in
def q_M292 : qM × List Nat := ((yX11_fits, cX11_fits, nat_lit 7, some .int, nat_lit 11, nat_lit 2, nat_lit 3, nat_lit 0, nat_lit 0, .branch (nat_lit 19) (.branch (nat_lit 7) (.branch (nat_lit 2) (.branch (nat_lit 1) (.leaf (nat_lit 1, nat_lit 0, nat_lit 4, nat_lit 0, nat_lit 0, nat_lit 0, [])) (.leaf (nat_lit 0, nat_lit 1, nat_lit 0, nat_lit 0, nat_lit 0, nat_lit 0, []))) (.branch (nat_lit 5) (.leaf (nat_lit 15, nat_lit 2, nat_lit 11, nat_lit 93, nat_lit 1, nat_lit 6102, [nat_lit 0])) (.branch (nat_lit 6) (.leaf (nat_lit 1, nat_lit 5, nat_lit 4, nat_lit 0, nat_lit 0, nat_lit 0, [])) (.leaf (nat_lit 0, nat_lit 6, nat_lit 0, nat_lit 0, nat_lit 0, nat_lit 0, []))))) (.branch (nat_lit 12) (.branch (nat_lit 10) (.leaf (nat_lit 15, nat_lit 7, nat_lit 11, nat_lit 96, nat_lit 0, nat_lit 6101, [nat_lit 0])) (.branch (nat_lit 11) (.leaf (nat_lit 1, nat_lit 10, nat_lit 4, nat_lit 0, nat_lit 0, nat_lit 0, [])) (.leaf (nat_lit 1, nat_lit 11, nat_lit 0, nat_lit 1, nat_lit 0, nat_lit 0, [])))) (.branch (nat_lit 15) (.leaf (nat_lit 23, nat_lit 12, nat_lit 2, nat_lit 412, nat_lit 8239, nat_lit 193, [])) (.branch (nat_lit 18) (.leaf (nat_lit 8, nat_lit 15, nat_lit 1, nat_lit 24, nat_lit 0, nat_lit 0, [])) (.leaf (nat_lit 1, nat_lit 18, nat_lit 4, nat_lit 0, nat_lit 0, nat_lit 0, [])))))) (.branch (nat_lit 29) (.branch (nat_lit 24) (.branch (nat_lit 20) (.leaf (nat_lit 0, nat_lit 19, nat_lit 0, nat_lit 1, nat_lit 0, nat_lit 0, [])) (.branch (nat_lit 23) (.leaf (nat_lit 23, nat_lit 20, nat_lit 2, nat_lit 312, nat_lit 8004, nat_lit 181, [])) (.leaf (nat_lit 24, nat_lit 23, nat_lit 1, nat_lit 0, nat_lit 0, nat_lit 0, [])))) (.branch (nat_lit 25) (.leaf (nat_lit 1, nat_lit 24, nat_lit 4, nat_lit 0, nat_lit 0, nat_lit 0, [])) (.branch (nat_lit 28) (.leaf (nat_lit 14, nat_lit 25, nat_lit 11, nat_lit 17, nat_lit 5, nat_lit 6106, [])) (.leaf (nat_lit 1, nat_lit 28, nat_lit 0, nat_lit 1, nat_lit 0, nat_lit 0, []))))) (.branch (nat_lit 34) (.branch (nat_lit 30) (.leaf (nat_lit 20, nat_lit 29, nat_lit 0, nat_lit 0, nat_lit 0, nat_lit 0, [])) (.branch (nat_lit 33) (.leaf (nat_lit 8, nat_lit 30, nat_lit 3, nat_lit 39, nat_lit 0, nat_lit 0, [])) (.leaf (nat_lit 1, nat_lit 33, nat_lit 4, nat_lit 0, nat_lit 0, nat_lit 0, [])))) (.branch (nat_lit 35) (.leaf (nat_lit 0, nat_lit 34, nat_lit 0, nat_lit 3, nat_lit 0, nat_lit 0, [])) (.branch (nat_lit 38) (.leaf (nat_lit 23, nat_lit 35, nat_lit 2, nat_lit 312, nat_lit 8004, nat_lit 181, [])) (.leaf (nat_lit 24, nat_lit 38, nat_lit 1, nat_lit 0, nat_lit 0, nat_lit 0, []))))))), [nat_lit 8238, nat_lit 1013, nat_lit 8236, nat_lit 8237])
set_option maxRecDepth 100000 in
def q_M293 : qM × List Nat := ((yX11_both, cX11_both, nat_lit 6, some .int, nat_lit 11, nat_lit 2, nat_lit 4, nat_lit 0, nat_lit 0, .branch (nat_lit 58) (.branch (nat_lit 29) (.branch (nat_lit 11) (.branch (nat_lit 5) (.branch (nat_lit 1) (.leaf (nat_lit 1, nat_lit 0, nat_lit 4, nat_lit 0, nat_lit 0, nat_lit 0, [])) (.branch (nat_lit 2) (.leaf (nat_lit 0, nat_lit 1, nat_lit 0, nat_lit 0, nat_lit 0, nat_lit 0, [])) (.leaf (nat_lit 15, nat_lit 2, nat_lit 11, nat_lit 93, nat_lit 1, nat_lit 6102, [nat_lit 0])))) (.branch (nat_lit 7) (.branch (nat_lit 6) (.leaf (nat_lit 1, nat_lit 5, nat_lit 4, nat_lit 0, nat_lit 0, nat_lit 0, [])) (.leaf (nat_lit 0, nat_lit 6, nat_lit 0, nat_lit 0, nat_lit 0, nat_lit 0, []))) (.branch (nat_lit 10) (.leaf (nat_lit 15, nat_lit 7, nat_lit 11, nat_lit 96, nat_lit 0, nat_lit 6101, [nat_lit 0])) (.leaf (nat_lit 1, nat_lit 10, nat_lit 0, nat_lit 1, nat_lit 0, nat_lit 0, []))))) (.branch (nat_lit 21) (.branch (nat_lit 15) (.branch (nat_lit 12) (.leaf (nat_lit 6, nat_lit 11, nat_lit 0, nat_lit 0, nat_lit 0, nat_lit 0, [])) (.leaf (nat_lit 0, nat_lit 12, nat_lit 6, nat_lit 421, nat_lit 2, nat_lit 9017, []))) (.branch (nat_lit 18) (.leaf (nat_lit 0, nat_lit 15, nat_lit 6, nat_lit 423, nat_lit 13, nat_lit 9018, [])) (.leaf (nat_lit 23, nat_lit 18, nat_lit 0, nat_lit 128, nat_lit 7133, nat_lit 183, [])))) (.branch (nat_lit 25) (.branch (nat_lit 24) (.leaf (nat_lit 8, nat_lit 21, nat_lit 0, nat_lit 61, nat_lit 0, nat_lit 0, [])) (.leaf (nat_lit 1, nat_lit 24, nat_lit 0, nat_lit 3, nat_lit 0, nat_lit 0, []))) (.branch (nat_lit 26) (.leaf (nat_lit 6, nat_lit 25, nat_lit 0, nat_lit 0, nat_lit 0, nat_lit 0, [])) (.leaf (nat_lit 0, nat_lit 26, nat_lit 6, nat_lit 421, nat_lit 2, nat_lit 9017, [])))))) (.branch (nat_lit 43) (.branch (nat_lit 39) (.branch (nat_lit 35) (.branch (nat_lit 32) (.leaf (nat_lit 0, nat_lit 29, nat_lit 6, nat_lit 423, nat_lit 13, nat_lit 9018, [])) (.leaf (nat_lit 23, nat_lit 32, nat_lit 0, nat_lit 128, nat_lit 7133, nat_lit 183, []))) (.branch (nat_lit 38) (.leaf (nat_lit 8, nat_lit 35, nat_lit 0, nat_lit 61, nat_lit 0, nat_lit 0, [])) (.leaf (nat_lit 1, nat_lit 38, nat_lit 0, nat_lit 2, nat_lit 0, nat_lit 0, [])))) (.branch (nat_lit 41) (.branch (nat_lit 40) (.leaf (nat_lit 6, nat_lit 39, nat_lit 0, nat_lit 0, nat_lit 0, nat_lit 0, [])) (.leaf (nat_lit 0, nat_lit 40, nat_lit 3, nat_lit 1, nat_lit 0, nat_lit 0, []))) (.branch (nat_lit 42) (.leaf (nat_lit 1, nat_lit 41, nat_lit 0, nat_lit 1, nat_lit 0, nat_lit 0, [])) (.leaf (nat_lit 6, nat_lit 42, nat_lit 0, nat_lit 0, nat_lit 0, nat_lit 0, []))))) (.branch (nat_lit 52) (.branch (nat_lit 49) (.branch (nat_lit 46) (.leaf (nat_lit 23, nat_lit 43, nat_lit 0, nat_lit 128, nat_lit 7133, nat_lit 183, [])) (.leaf (nat_lit 8, nat_lit 46, nat_lit 0, nat_lit 61, nat_lit 0, nat_lit 0, []))) (.branch (nat_lit 51) (.leaf (nat_lit 1, nat_lit 49, nat_lit 1, nat_lit 4, nat_lit 0, nat_lit 0, [])) (.leaf (nat_lit 6, nat_lit 51, nat_lit 0, nat_lit 0, nat_lit 0, nat_lit 0, [])))) (.branch (nat_lit 54) (.branch (nat_lit 53) (.leaf (nat_lit 0, nat_lit 52, nat_lit 3, nat_lit 1, nat_lit 0, nat_lit 0, [])) (.leaf (nat_lit 1, nat_lit 53, nat_lit 0, nat_lit 3, nat_lit 0, nat_lit 0, []))) (.branch (nat_lit 55) (.leaf (nat_lit 6, nat_lit 54, nat_lit 0, nat_lit 0, nat_lit 0, nat_lit 0, [])) (.leaf (nat_lit 23, nat_lit 55, nat_lit 0, nat_lit 128, nat_lit 7133, nat_lit 183, []))))))) (.branch (nat_lit 83) (.branch (nat_lit 72) (.branch (nat_lit 66) (.branch (nat_lit 62) (.branch (nat_lit 61) (.leaf (nat_lit 8, nat_lit 58, nat_lit 1, nat_lit 67, nat_lit 0, nat_lit 0, [])) (.leaf (nat_lit 1, nat_lit 61, nat_lit 4, nat_lit 0, nat_lit 0, nat_lit 0, []))) (.branch (nat_lit 63) (.leaf (nat_lit 0, nat_lit 62, nat_lit 0, nat_lit 5, nat_lit 0, nat_lit 0, [])) (.leaf (nat_lit 23, nat_lit 63, nat_lit 2, nat_lit 312, nat_lit 8004, nat_lit 181, [])))) (.branch (nat_lit 68) (.branch (nat_lit 67) (.leaf (nat_lit 24, nat_lit 66, nat_lit 1, nat_lit 0, nat_lit 0, nat_lit 0, [])) (.leaf (nat_lit 0, nat_lit 67, nat_lit 0, nat_lit 0, nat_lit 0, nat_lit 0, []))) (.branch (nat_lit 70) (.leaf (nat_lit 2, nat_lit 68, nat_lit 1, nat_lit 5, nat_lit 0, nat_lit 0, [])) (.leaf (nat_lit 1, nat_lit 70, nat_lit 1, nat_lit 5, nat_lit 0, nat_lit 0, []))))) (.branch (nat_lit 78) (.branch (nat_lit 74) (.branch (nat_lit 73) (.leaf (nat_lit 1, nat_lit 72, nat_lit 0, nat_lit 1, nat_lit 0, nat_lit 0, [])) (.leaf (nat_lit 1, nat_lit 73, nat_lit 0, nat_lit 3, nat_lit 0, nat_lit 0, []))) (.branch (nat_lit 75) (.leaf (nat_lit 4, nat_lit 74, nat_lit 2, nat_lit 0, nat_lit 0, nat_lit 0, [])) (.leaf (nat_lit 9, nat_lit 75, nat_lit 3, nat_lit 106, nat_lit 0, nat_lit 0, [])))) (.branch (nat_lit 81) (.branch (nat_lit 79) (.leaf (nat_lit 1, nat_lit 78, nat_lit 0, nat_lit 2, nat_lit 0, nat_lit 0, [])) (.leaf (nat_lit 1, nat_lit 79, nat_lit 1, nat_lit 5, nat_lit 0, nat_lit 0, []))) (.branch (nat_lit 82) (.leaf (nat_lit 4, nat_lit 81, nat_lit 0, nat_lit 0, nat_lit 0, nat_lit 0, [])) (.leaf (nat_lit 1, nat_lit 82, nat_lit 0, nat_lit 1, nat_lit 0, nat_lit 0, [])))))) (.branch (nat_lit 97) (.branch (nat_lit 91) (.branch (nat_lit 87) (.branch (nat_lit 84) (.leaf (nat_lit 4, nat_lit 83, nat_lit 9, nat_lit 0, nat_lit 0, nat_lit 0, [])) (.leaf (nat_lit 8, nat_lit 84, nat_lit 1, nat_lit 100, nat_lit 0, nat_lit 0, []))) (.branch (nat_lit 89) (.leaf (nat_lit 1, nat_lit 87, nat_lit 1, nat_lit 4, nat_lit 0, nat_lit 0, [])) (.leaf (nat_lit 1, nat_lit 89, nat_lit 1, nat_lit 5, nat_lit 0, nat_lit 0, [])))) (.branch (nat_lit 93) (.branch (nat_lit 92) (.leaf (nat_lit 4, nat_lit 91, nat_lit 0, nat_lit 0, nat_lit 0, nat_lit 0, [])) (.leaf (nat_lit 1, nat_lit 92, nat_lit 0, nat_lit 3, nat_lit 0, nat_lit 0, []))) (.branch (nat_lit 94) (.leaf (nat_lit 4, nat_lit 93, nat_lit 9, nat_lit 0, nat_lit 0, nat_lit 0, [])) (.leaf (nat_lit 8, nat_lit 94, nat_lit 1, nat_lit 100, nat_lit 0, nat_lit 0, []))))) (.branch (nat_lit 106) (.branch (nat_lit 100) (.branch (nat_lit 99) (.leaf (nat_lit 1, nat_lit 97, nat_lit 1, nat_lit 5, nat_lit 0, nat_lit 0, [])) (.leaf (nat_lit 24, nat_lit 99, nat_lit 1, nat_lit 0, nat_lit 0, nat_lit 0, []))) (.branch (nat_lit 103) (.leaf (nat_lit 3, nat_lit 100, nat_lit 0, nat_lit 5, nat_lit 1, nat_lit 0, [])) (.leaf (nat_lit 10, nat_lit 103, nat_lit 0, nat_lit 70, nat_lit 0, nat_lit 0, [])))) (.branch (nat_lit 109) (.branch (nat_lit 107) (.leaf (nat_lit 1, nat_lit 106, nat_lit 4, nat_lit 0, nat_lit 0, nat_lit 0, [])) (.leaf (nat_lit 0, nat_lit 107, nat_lit 1, nat_lit 8, nat_lit 0, nat_lit 0, []))) (.branch (nat_lit 112) (.leaf (nat_lit 23, nat_lit 109, nat_lit 2, nat_lit 312, nat_lit 8004, nat_lit 181, [])) (.leaf (nat_lit 24, nat_lit 112, nat_lit 1, nat_lit 0, nat_lit 0, nat_lit 0, [])))))))), [nat_lit 9016, nat_lit 1013, nat_lit 9014, nat_lit 9015])
set_option maxRecDepth 100000 in
def q_M294 : qM × List Nat := ((yX11_join, cX11_join, nat_lit 7, some .int, nat_lit 11, nat_lit 2, nat_lit 3, nat_lit 0, nat_lit 0, .branch (nat_lit 32) (.branch (nat_lit 15) (.branch (nat_lit 6) (.branch (nat_lit 2) (.branch (nat_lit 1) (.leaf (nat_lit 1, nat_lit 0, nat_lit 4, nat_lit 0, nat_lit 0, nat_lit 0, [])) (.leaf (nat_lit 0, nat_lit 1, nat_lit 0, nat_lit 0, nat_lit 0, nat_lit 0, []))) (.branch (nat_lit 5) (.leaf (nat_lit 15, nat_lit 2, nat_lit 11, nat_lit 93, nat_lit 1, nat_lit 6102, [nat_lit 0])) (.leaf (nat_lit 1, nat_lit 5, nat_lit 4, nat_lit 0, nat_lit 0, nat_lit 0, [])))) (.branch (nat_lit 10) (.branch (nat_lit 7) (.leaf (nat_lit 0, nat_lit 6, nat_lit 0, nat_lit 0, nat_lit 0, nat_lit 0, [])) (.leaf (nat_lit 15, nat_lit 7, nat_lit 11, nat_lit 96, nat_lit 0, nat_lit 6101, [nat_lit 0]))) (.branch (nat_lit 11) (.leaf (nat_lit 1, nat_lit 10, nat_lit 0, nat_lit 1, nat_lit 0, nat_lit 0, [])) (.branch (nat_lit 12) (.leaf (nat_lit 6, nat_lit 11, nat_lit 0, nat_lit 0, nat_lit 0, nat_lit 0, [])) (.leaf (nat_lit 0, nat_lit 12, nat_lit 6, nat_lit 421, nat_lit 2, nat_lit 9017, [])))))) (.branch (nat_lit 25) (.branch (nat_lit 21) (.branch (nat_lit 18) (.leaf (nat_lit 0, nat_lit 15, nat_lit 6, nat_lit 423, nat_lit 13, nat_lit 9018, [])) (.leaf (nat_lit 23, nat_lit 18, nat_lit 0, nat_lit 128, nat_lit 7133, nat_lit 183, []))) (.branch (nat_lit 24) (.leaf (nat_lit 8, nat_lit 21, nat_lit 0, nat_lit 47, nat_lit 0, nat_lit 0, [])) (.leaf (nat_lit 1, nat_lit 24, nat_lit 0, nat_lit 2, nat_lit 0, nat_lit 0, [])))) (.branch (nat_lit 27) (.branch (nat_lit 26) (.leaf (nat_lit 6, nat_lit 25, nat_lit 0, nat_lit 0, nat_lit 0, nat_lit 0, [])) (.leaf (nat_lit 0, nat_lit 26, nat_lit 3, nat_lit 1, nat_lit 0, nat_lit 0, []))) (.branch (nat_lit 28) (.leaf (nat_lit 1, nat_lit 27, nat_lit 0, nat_lit 1, nat_lit 0, nat_lit 0, [])) (.branch (nat_lit 29) (.leaf (nat_lit 6, nat_lit 28, nat_lit 0, nat_lit 0, nat_lit 0, nat_lit 0, [])) (.leaf (nat_lit 23, nat_lit 29, nat_lit 0, nat_lit 128, nat_lit 7133, nat_lit 183, []))))))) (.branch (nat_lit 49) (.branch (nat_lit 38) (.branch (nat_lit 36) (.branch (nat_lit 35) (.leaf (nat_lit 8, nat_lit 32, nat_lit 0, nat_lit 47, nat_lit 0, nat_lit 0, [])) (.leaf (nat_lit 1, nat_lit 35, nat_lit 0, nat_lit 3, nat_lit 0, nat_lit 0, []))) (.branch (nat_lit 37) (.leaf (nat_lit 6, nat_lit 36, nat_lit 0, nat_lit 0, nat_lit 0, nat_lit 0, [])) (.leaf (nat_lit 0, nat_lit 37, nat_lit 3, nat_lit 1, nat_lit 0, nat_lit 0, [])))) (.branch (nat_lit 44) (.branch (nat_lit 41) (.leaf (nat_lit 0, nat_lit 38, nat_lit 6, nat_lit 425, nat_lit 200, nat_lit 9023, [])) (.leaf (nat_lit 23, nat_lit 41, nat_lit 0, nat_lit 128, nat_lit 7133, nat_lit 183, []))) (.branch (nat_lit 47) (.leaf (nat_lit 8, nat_lit 44, nat_lit 1, nat_lit 53, nat_lit 0, nat_lit 0, [])) (.branch (nat_lit 48) (.leaf (nat_lit 1, nat_lit 47, nat_lit 4, nat_lit 0, nat_lit 0, nat_lit 0, [])) (.leaf (nat_lit 0, nat_lit 48, nat_lit 0, nat_lit 5, nat_lit 0, nat_lit 0, [])))))) (.branch (nat_lit 57) (.branch (nat_lit 53) (.branch (nat_lit 52) (.leaf (nat_lit 23, nat_lit 49, nat_lit 2, nat_lit 312, nat_lit 8004, nat_lit 181, [])) (.leaf (nat_lit 24, nat_lit 52, nat_lit 1, nat_lit 0, nat_lit 0, nat_lit 0, []))) (.branch (nat_lit 54) (.leaf (nat_lit 1, nat_lit 53, nat_lit 4, nat_lit 0, nat_lit 0, nat_lit 0, [])) (.leaf (nat_lit 23, nat_lit 54, nat_lit 2, nat_lit 288, nat_lit 7236, nat_lit 235, [])))) (.branch (nat_lit 61) (.branch (nat_lit 60) (.leaf (nat_lit 8, nat_lit 57, nat_lit 1, nat_lit 67, nat_lit 0, nat_lit 0, [])) (.leaf (nat_lit 1, nat_lit 60, nat_lit 4, nat_lit 0, nat_lit 0, nat_lit 0, []))) (.branch (nat_lit 63) (.leaf (nat_lit 0, nat_lit 61, nat_lit 1, nat_lit 8, nat_lit 0, nat_lit 0, [])) (.branch (nat_lit 66) (.leaf (nat_lit 23, nat_lit 63, nat_lit 2, nat_lit 312, nat_lit 8004, nat_lit 181, [])) (.leaf (nat_lit 24, nat_lit 66, nat_lit 1, nat_lit 0, nat_lit 0, nat_lit 0, [])))))))), [nat_lit 9022, nat_lit 1013, nat_lit 9020, nat_lit 9021])
set_option maxRecDepth 100000 in
def q_M295 : qM × List Nat := ((yX11_yearsFound, cX11_yearsFound, nat_lit 4, some .int, nat_lit 11, nat_lit 2, nat_lit 0, nat_lit 0, nat_lit 0, .branch (nat_lit 8) (.branch (nat_lit 5) (.branch (nat_lit 1) (.leaf (nat_lit 1, nat_lit 0, nat_lit 4, nat_lit 0, nat_lit 0, nat_lit 0, [])) (.branch (nat_lit 2) (.leaf (nat_lit 0, nat_lit 1, nat_lit 0, nat_lit 1, nat_lit 0, nat_lit 0, [])) (.leaf (nat_lit 23, nat_lit 2, nat_lit 2, nat_lit 303, nat_lit 8036, nat_lit 243, [])))) (.branch (nat_lit 6) (.leaf (nat_lit 0, nat_lit 5, nat_lit 0, nat_lit 0, nat_lit 0, nat_lit 0, [])) (.branch (nat_lit 7) (.leaf (nat_lit 2, nat_lit 6, nat_lit 0, nat_lit 1, nat_lit 0, nat_lit 0, [])) (.leaf (nat_lit 0, nat_lit 7, nat_lit 0, nat_lit 0, nat_lit 0, nat_lit 0, []))))) (.branch (nat_lit 11) (.branch (nat_lit 9) (.leaf (nat_lit 2, nat_lit 8, nat_lit 0, nat_lit 2, nat_lit 0, nat_lit 0, [])) (.branch (nat_lit 10) (.leaf (nat_lit 1, nat_lit 9, nat_lit 0, nat_lit 2, nat_lit 0, nat_lit 0, [])) (.leaf (nat_lit 1, nat_lit 10, nat_lit 4, nat_lit 0, nat_lit 0, nat_lit 0, [])))) (.branch (nat_lit 69) (.branch (nat_lit 14) (.leaf (nat_lit 23, nat_lit 11, nat_lit 2, nat_lit 288, nat_lit 7236, nat_lit 235, [])) (.leaf (nat_lit 9, nat_lit 14, nat_lit 3, nat_lit 69, nat_lit 0, nat_lit 0, []))) (.branch (nat_lit 70) (.leaf (nat_lit 1, nat_lit 69, nat_lit 0, nat_lit 1, nat_lit 0, nat_lit 0, [])) (.leaf (nat_lit 24, nat_lit 70, nat_lit 1, nat_lit 0, nat_lit 0, nat_lit 0, [])))))), [nat_lit 9031, nat_lit 1013, nat_lit 9030, nat_lit 116])
set_option maxRecDepth 100000 in
def q_M296 : qM × List Nat := ((yX11_years, cX11_years, nat_lit 5, some .int, nat_lit 11, nat_lit 2, nat_lit 0, nat_lit 0, nat_lit 0, .branch (nat_lit 15) (.branch (nat_lit 6) (.branch (nat_lit 2) (.branch (nat_lit 1) (.leaf (nat_lit 1, nat_lit 0, nat_lit 4, nat_lit 0, nat_lit 0, nat_lit 0, [])) (.leaf (nat_lit 0, nat_lit 1, nat_lit 0, nat_lit 0, nat_lit 0, nat_lit 0, []))) (.branch (nat_lit 5) (.leaf (nat_lit 15, nat_lit 2, nat_lit 11, nat_lit 93, nat_lit 1, nat_lit 6102, [nat_lit 0])) (.leaf (nat_lit 1, nat_lit 5, nat_lit 4, nat_lit 0, nat_lit 0, nat_lit 0, [])))) (.branch (nat_lit 10) (.branch (nat_lit 7) (.leaf (nat_lit 0, nat_lit 6, nat_lit 0, nat_lit 0, nat_lit 0, nat_lit 0, [])) (.leaf (nat_lit 15, nat_lit 7, nat_lit 11, nat_lit 96, nat_lit 0, nat_lit 6101, [nat_lit 0]))) (.branch (nat_lit 11) (.leaf (nat_lit 1, nat_lit 10, nat_lit 4, nat_lit 0, nat_lit 0, nat_lit 0, [])) (.branch (nat_lit 14) (.leaf (nat_lit 23, nat_lit 11, nat_lit 2, nat_lit 427, nat_lit 9028, nat_lit 295, [])) (.leaf (nat_lit 2, nat_lit 14, nat_lit 0, nat_lit 1, nat_lit 0, nat_lit 0, [])))))) (.branch (nat_lit 19) (.branch (nat_lit 17) (.branch (nat_lit 16) (.leaf (nat_lit 0, nat_lit 15, nat_lit 0, nat_lit 0, nat_lit 0, nat_lit 0, [])) (.leaf (nat_lit 2, nat_lit 16, nat_lit 0, nat_lit 2, nat_lit 0, nat_lit 0, []))) (.branch (nat_lit 18) (.leaf (nat_lit 0, nat_lit 17, nat_lit 0, nat_lit 0, nat_lit 0, nat_lit 0, [])) (.leaf (nat_lit 2, nat_lit 18, nat_lit 0, nat_lit 3, nat_lit 0, nat_lit 0, [])))) (.branch (nat_lit 21) (.branch (nat_lit 20) (.leaf (nat_lit 1, nat_lit 19, nat_lit 0, nat_lit 3, nat_lit 0, nat_lit 0, [])) (.leaf (nat_lit 1, nat_lit 20, nat_lit 0, nat_lit 1, nat_lit 0, nat_lit 0, []))) (.branch (nat_lit 103) (.leaf (nat_lit 9, nat_lit 21, nat_lit 3, nat_lit 103, nat_lit 0, nat_lit 0, [])) (.branch (nat_lit 104) (.leaf (nat_lit 1, nat_lit 103, nat_lit 0, nat_lit 2, nat_lit 0, nat_lit 0, [])) (.leaf (nat_lit 24, nat_lit 104, nat_lit 1, nat_lit 0, nat_lit 0, nat_lit 0, []))))))), [nat_lit 9027, nat_lit 1013, nat_lit 9025, nat_lit 9026])
set_option maxRecDepth 100000 in
def q_M297 : qM × List Nat := ((yX11_against, cX11_against, nat_lit 5, some .int, nat_lit 11, nat_lit 2, nat_lit 0, nat_lit 0, nat_lit 0, .branch (nat_lit 15) (.branch (nat_lit 6) (.branch (nat_lit 2) (.branch (nat_lit 1) (.leaf (nat_lit 1, nat_lit 0, nat_lit 4, nat_lit 0, nat_lit 0, nat_lit 0, [])) (.leaf (nat_lit 0, nat_lit 1, nat_lit 0, nat_lit 0, nat_lit 0, nat_lit 0, []))) (.branch (nat_lit 5) (.leaf (nat_lit 15, nat_lit 2, nat_lit 11, nat_lit 93, nat_lit 1, nat_lit 6102, [nat_lit 0])) (.leaf (nat_lit 1, nat_lit 5, nat_lit 4, nat_lit 0, nat_lit 0, nat_lit 0, [])))) (.branch (nat_lit 10) (.branch (nat_lit 7) (.leaf (nat_lit 0, nat_lit 6, nat_lit 0, nat_lit 0, nat_lit 0, nat_lit 0, [])) (.leaf (nat_lit 15, nat_lit 7, nat_lit 11, nat_lit 96, nat_lit 0, nat_lit 6101, [nat_lit 0]))) (.branch (nat_lit 11) (.leaf (nat_lit 1, nat_lit 10, nat_lit 4, nat_lit 0, nat_lit 0, nat_lit 0, [])) (.branch (nat_lit 14) (.leaf (nat_lit 23, nat_lit 11, nat_lit 2, nat_lit 427, nat_lit 9028, nat_lit 295, [])) (.leaf (nat_lit 2, nat_lit 14, nat_lit 0, nat_lit 1, nat_lit 0, nat_lit 0, [])))))) (.branch (nat_lit 19) (.branch (nat_lit 17) (.branch (nat_lit 16) (.leaf (nat_lit 0, nat_lit 15, nat_lit 0, nat_lit 0, nat_lit 0, nat_lit 0, [])) (.leaf (nat_lit 2, nat_lit 16, nat_lit 0, nat_lit 2, nat_lit 0, nat_lit 0, []))) (.branch (nat_lit 18) (.leaf (nat_lit 0, nat_lit 17, nat_lit 0, nat_lit 0, nat_lit 0, nat_lit 0, [])) (.leaf (nat_lit 2, nat_lit 18, nat_lit 0, nat_lit 3, nat_lit 0, nat_lit 0, [])))) (.branch (nat_lit 21) (.branch (nat_lit 20) (.leaf (nat_lit 1, nat_lit 19, nat_lit 0, nat_lit 3, nat_lit 0, nat_lit 0, [])) (.leaf (nat_lit 1, nat_lit 20, nat_lit 0, nat_lit 1, nat_lit 0, nat_lit 0, []))) (.branch (nat_lit 69) (.leaf (nat_lit 9, nat_lit 21, nat_lit 3, nat_lit 69, nat_lit 0, nat_lit 0, [])) (.branch (nat_lit 70) (.leaf (nat_lit 1, nat_lit 69, nat_lit 0, nat_lit 2, nat_lit 0, nat_lit 0, [])) (.leaf (nat_lit 24, nat_lit 70, nat_lit 1, nat_lit 0, nat_lit 0, nat_lit 0, []))))))), [nat_lit 9035, nat_lit 1013, nat_lit 9033, nat_lit 9034])
set_option maxRecDepth 100000 in
def q_M298 : qM × List Nat := ((yX11_dated, cX11_dated, nat_lit 6, some .int, nat_lit 11, nat_lit 2, nat_lit 2, nat_lit 0, nat_lit 0, .branch (nat_lit 11) (.branch (nat_lit 5) (.branch (nat_lit 1) (.leaf (nat_lit 1, nat_lit 0, nat_lit 4, nat_lit 0, nat_lit 0, nat_lit 0, [])) (.branch (nat_lit 2) (.leaf (nat_lit 0, nat_lit 1, nat_lit 0, nat_lit 0, nat_lit 0, nat_lit 0, [])) (.leaf (nat_lit 15, nat_lit 2, nat_lit 11, nat_lit 93, nat_lit 1, nat_lit 6102, [nat_lit 0])))) (.branch (nat_lit 7) (.branch (nat_lit 6) (.leaf (nat_lit 1, nat_lit 5, nat_lit 4, nat_lit 0, nat_lit 0, nat_lit 0, [])) (.leaf (nat_lit 0, nat_lit 6, nat_lit 0, nat_lit 0, nat_lit 0, nat_lit 0, []))) (.branch (nat_lit 10) (.leaf (nat_lit 15, nat_lit 7, nat_lit 11, nat_lit 96, nat_lit 0, nat_lit 6101, [nat_lit 0])) (.leaf (nat_lit 1, nat_lit 10, nat_lit 4, nat_lit 0, nat_lit 0, nat_lit 0, []))))) (.branch (nat_lit 18) (.branch (nat_lit 12) (.leaf (nat_lit 1, nat_lit 11, nat_lit 0, nat_lit 1, nat_lit 0, nat_lit 0, [])) (.branch (nat_lit 15) (.leaf (nat_lit 23, nat_lit 12, nat_lit 2, nat_lit 315, nat_lit 8012, nat_lit 236, [])) (.leaf (nat_lit 8, nat_lit 15, nat_lit 1, nat_lit 24, nat_lit 0, nat_lit 0, [])))) (.branch (nat_lit 20) (.branch (nat_lit 19) (.leaf (nat_lit 1, nat_lit 18, nat_lit 4, nat_lit 0, nat_lit 0, nat_lit 0, [])) (.leaf (nat_lit 0, nat_lit 19, nat_lit 0, nat_lit 2, nat_lit 0, nat_lit 0, []))) (.branch (nat_lit 23) (.leaf (nat_lit 23, nat_lit 20, nat_lit 2, nat_lit 312, nat_lit 8004, nat_lit 181, [])) (.leaf (nat_lit 24, nat_lit 23, nat_lit 1, nat_lit 0, nat_lit 0, nat_lit 0, [])))))), [nat_lit 9039, nat_lit 1013, nat_lit 9037, nat_lit 9038])
set_option maxRecDepth 100000 in
def q_M299 : qM × List Nat := ((yX11_hammer, cX11_hammer, nat_lit 2, some .boolean, nat_lit 11, nat_lit 2, nat_lit 1, nat_lit 0, nat_lit 0, .branch (nat_lit 11) (.branch (nat_lit 5) (.branch (nat_lit 1) (.leaf (nat_lit 1, nat_lit 0, nat_lit 4, nat_lit 0, nat_lit 0, nat_lit 0, [])) (.branch (nat_lit 2) (.leaf (nat_lit 0, nat_lit 1, nat_lit 0, nat_lit 0, nat_lit 0, nat_lit 0, [])) (.leaf (nat_lit 15, nat_lit 2, nat_lit 11, nat_lit 93, nat_lit 1, nat_lit 6102, [nat_lit 0])))) (.branch (nat_lit 7) (.branch (nat_lit 6) (.leaf (nat_lit 1, nat_lit 5, nat_lit 4, nat_lit 0, nat_lit 0, nat_lit 0, [])) (.leaf (nat_lit 0, nat_lit 6, nat_lit 0, nat_lit 0, nat_lit 0, nat_lit 0, []))) (.branch (nat_lit 10) (.leaf (nat_lit 15, nat_lit 7, nat_lit 11, nat_lit 96, nat_lit 0, nat_lit 6101, [nat_lit 0])) (.leaf (nat_lit 1, nat_lit 10, nat_lit 4, nat_lit 0, nat_lit 0, nat_lit 0, []))))) (.branch (nat_lit 18) (.branch (nat_lit 12) (.leaf (nat_lit 1, nat_lit 11, nat_lit 0, nat_lit 1, nat_lit 0, nat_lit 0, [])) (.branch (nat_lit 15) (.leaf (nat_lit 23, nat_lit 12, nat_lit 2, nat_lit 315, nat_lit 8012, nat_lit 236, [])) (.leaf (nat_lit 8, nat_lit 15, nat_lit 1, nat_lit 24, nat_lit 0, nat_lit 0, [])))) (.branch (nat_lit 20) (.branch (nat_lit 19) (.leaf (nat_lit 1, nat_lit 18, nat_lit 4, nat_lit 0, nat_lit 0, nat_lit 0, [])) (.leaf (nat_lit 0, nat_lit 19, nat_lit 0, nat_lit 2, nat_lit 0, nat_lit 0, []))) (.branch (nat_lit 23) (.leaf (nat_lit 23, nat_lit 20, nat_lit 2, nat_lit 108, nat_lit 7038, nat_lit 182, [])) (.leaf (nat_lit 24, nat_lit 23, nat_lit 1, nat_lit 0, nat_lit 0, nat_lit 0, [])))))), [nat_lit 9043, nat_lit 1013, nat_lit 9041, nat_lit 9042])
set_option maxRecDepth 100000 in
def q_M307 : qM × List Nat := ((yX11_isNoWalk, cX11_isNoWalk, nat_lit 1, some .boolean, nat_lit 11, nat_lit 2, nat_lit 0, nat_lit 0, nat_lit 0, .branch (nat_lit 8) (.branch (nat_lit 4) (.branch (nat_lit 1) (.leaf (nat_lit 1, nat_lit 0, nat_lit 4, nat_lit 0, nat_lit 0, nat_lit 0, [])) (.leaf (nat_lit 14, nat_lit 1, nat_lit 11, nat_lit 35, nat_lit 20, nat_lit 6121, []))) (.branch (nat_lit 7) (.leaf (nat_lit 0, nat_lit 4, nat_lit 2, nat_lit 145, nat_lit 0, nat_lit 0, [])) (.leaf (nat_lit 20, nat_lit 7, nat_lit 0, nat_lit 0, nat_lit 0, nat_lit 0, [])))) (.branch (nat_lit 19) (.branch (nat_lit 18) (.leaf (nat_lit 8, nat_lit 8, nat_lit 0, nat_lit 18, nat_lit 0, nat_lit 0, [])) (.leaf (nat_lit 0, nat_lit 18, nat_lit 0, nat_lit 1, nat_lit 0, nat_lit 0, []))) (.branch (nat_lit 23) (.leaf (nat_lit 10, nat_lit 19, nat_lit 0, nat_lit 23, nat_lit 0, nat_lit 0, [])) (.leaf (nat_lit 24, nat_lit 23, nat_lit 1, nat_lit 0, nat_lit 0, nat_lit 0, []))))), [nat_lit 9052, nat_lit 1013, nat_lit 9051, nat_lit 117])
set_option maxRecDepth 100000 in
def q_M308 : qM × List Nat := ((yX11_walk, cX11_walk, nat_lit 3, some .int, nat_lit 11, nat_lit 2, nat_lit 2, nat_lit 0, nat_lit 0, .branch (nat_lit 24) (.branch (nat_lit 11) (.branch (nat_lit 5) (.branch (nat_lit 1) (.leaf (nat_lit 1, nat_lit 0, nat_lit 4, nat_lit 0, nat_lit 0, nat_lit 0, [])) (.branch (nat_lit 2) (.leaf (nat_lit 0, nat_lit 1, nat_lit 0, nat_lit 0, nat_lit 0, nat_lit 0, [])) (.leaf (nat_lit 15, nat_lit 2, nat_lit 11, nat_lit 93, nat_lit 1, nat_lit 6102, [nat_lit 0])))) (.branch (nat_lit 7) (.branch (nat_lit 6) (.leaf (nat_lit 1, nat_lit 5, nat_lit 4, nat_lit 0, nat_lit 0, nat_lit 0, [])) (.leaf (nat_lit 0, nat_lit 6, nat_lit 0, nat_lit 0, nat_lit 0, nat_lit 0, []))) (.branch (nat_lit 10) (.leaf (nat_lit 15, nat_lit 7, nat_lit 11, nat_lit 96, nat_lit 0, nat_lit 6101, [nat_lit 0])) (.leaf (nat_lit 1, nat_lit 10, nat_lit 0, nat_lit 1, nat_lit 0, nat_lit 0, []))))) (.branch (nat_lit 16) (.branch (nat_lit 12) (.leaf (nat_lit 6, nat_lit 11, nat_lit 0, nat_lit 0, nat_lit 0, nat_lit 0, [])) (.branch (nat_lit 13) (.leaf (nat_lit 0, nat_lit 12, nat_lit 3, nat_lit 0, nat_lit 0, nat_lit 0, [])) (.leaf (nat_lit 0, nat_lit 13, nat_lit 6, nat_lit 475, nat_lit 9999, nat_lit 9048, [])))) (.branch (nat_lit 22) (.branch (nat_lit 19) (.leaf (nat_lit 23, nat_lit 16, nat_lit 0, nat_lit 128, nat_lit 7133, nat_lit 183, [])) (.leaf (nat_lit 8, nat_lit 19, nat_lit 0, nat_lit 34, nat_lit 0, nat_lit 0, []))) (.branch (nat_lit 23) (.leaf (nat_lit 1, nat_lit 22, nat_lit 0, nat_lit 2, nat_lit 0, nat_lit 0, [])) (.leaf (nat_lit 6, nat_lit 23, nat_lit 0, nat_lit 0, nat_lit 0, nat_lit 0, [])))))) (.branch (nat_lit 39) (.branch (nat_lit 31) (.branch (nat_lit 25) (.leaf (nat_lit 0, nat_lit 24, nat_lit 3, nat_lit 0, nat_lit 0, nat_lit 0, [])) (.branch (nat_lit 28) (.leaf (nat_lit 0, nat_lit 25, nat_lit 6, nat_lit 415, nat_lit 16, nat_lit 9004, [])) (.leaf (nat_lit 23, nat_lit 28, nat_lit 0, nat_lit 128, nat_lit 7133, nat_lit 183, [])))) (.branch (nat_lit 35) (.branch (nat_lit 34) (.leaf (nat_lit 8, nat_lit 31, nat_lit 1, nat_lit 40, nat_lit 0, nat_lit 0, [])) (.leaf (nat_lit 1, nat_lit 34, nat_lit 4, nat_lit 0, nat_lit 0, nat_lit 0, []))) (.branch (nat_lit 36) (.leaf (nat_lit 0, nat_lit 35, nat_lit 0, nat_lit 5, nat_lit 0, nat_lit 0, [])) (.leaf (nat_lit 23, nat_lit 36, nat_lit 2, nat_lit 312, nat_lit 8004, nat_lit 181, []))))) (.branch (nat_lit 47) (.branch (nat_lit 41) (.branch (nat_lit 40) (.leaf (nat_lit 24, nat_lit 39, nat_lit 1, nat_lit 0, nat_lit 0, nat_lit 0, [])) (.leaf (nat_lit 1, nat_lit 40, nat_lit 4, nat_lit 0, nat_lit 0, nat_lit 0, []))) (.branch (nat_lit 44) (.leaf (nat_lit 23, nat_lit 41, nat_lit 2, nat_lit 477, nat_lit 9049, nat_lit 307, [])) (.leaf (nat_lit 8, nat_lit 44, nat_lit 0, nat_lit 54, nat_lit 0, nat_lit 0, [])))) (.branch (nat_lit 50) (.branch (nat_lit 48) (.leaf (nat_lit 1, nat_lit 47, nat_lit 4, nat_lit 0, nat_lit 0, nat_lit 0, [])) (.leaf (nat_lit 0, nat_lit 48, nat_lit 1, nat_lit 8, nat_lit 0, nat_lit 0, []))) (.branch (nat_lit 53) (.leaf (nat_lit 23, nat_lit 50, nat_lit 2, nat_lit 312, nat_lit 8004, nat_lit 181, [])) (.leaf (nat_lit 24, nat_lit 53, nat_lit 1, nat_lit 0, nat_lit 0, nat_lit 0, []))))))), [nat_lit 9047, nat_lit 1013, nat_lit 9045, nat_lit 9046])
set_option maxRecDepth 100000 in
def q_M309 : qM × List Nat := ((yX11_walked, cX11_walked, nat_lit 2, some .int, nat_lit 11, nat_lit 2, nat_lit 1, nat_lit 0, nat_lit 0, .branch (nat_lit 19) (.branch (nat_lit 7) (.branch (nat_lit 2) (.branch (nat_lit 1) (.leaf (nat_lit 1, nat_lit 0, nat_lit 4, nat_lit 0, nat_lit 0, nat_lit 0, [])) (.leaf (nat_lit 0, nat_lit 1, nat_lit 0, nat_lit 0, nat_lit 0, nat_lit 0, []))) (.branch (nat_lit 5) (.leaf (nat_lit 15, nat_lit 2, nat_lit 11, nat_lit 93, nat_lit 1, nat_lit 6102, [nat_lit 0])) (.branch (nat_lit 6) (.leaf (nat_lit 1, nat_lit 5, nat_lit 4, nat_lit 0, nat_lit 0, nat_lit 0, [])) (.leaf (nat_lit 0, nat_lit 6, nat_lit 0, nat_lit 0, nat_lit 0, nat_lit 0, []))))) (.branch (nat_lit 12) (.branch (nat_lit 10) (.leaf (nat_lit 15, nat_lit 7, nat_lit 11, nat_lit 96, nat_lit 0, nat_lit 6101, [nat_lit 0])) (.branch (nat_lit 11) (.leaf (nat_lit 1, nat_lit 10, nat_lit 0, nat_lit 1, nat_lit 0, nat_lit 0, [])) (.leaf (nat_lit 6, nat_lit 11, nat_lit 0, nat_lit 0, nat_lit 0, nat_lit 0, [])))) (.branch (nat_lit 13) (.leaf (nat_lit 0, nat_lit 12, nat_lit 3, nat_lit 0, nat_lit 0, nat_lit 0, [])) (.branch (nat_lit 16) (.leaf (nat_lit 0, nat_lit 13, nat_lit 6, nat_lit 126, nat_lit 3, nat_lit 9003, [])) (.leaf (nat_lit 23, nat_lit 16, nat_lit 0, nat_lit 128, nat_lit 7133, nat_lit 183, [])))))) (.branch (nat_lit 29) (.branch (nat_lit 24) (.branch (nat_lit 22) (.leaf (nat_lit 8, nat_lit 19, nat_lit 1, nat_lit 28, nat_lit 0, nat_lit 0, [])) (.branch (nat_lit 23) (.leaf (nat_lit 1, nat_lit 22, nat_lit 4, nat_lit 0, nat_lit 0, nat_lit 0, [])) (.leaf (nat_lit 0, nat_lit 23, nat_lit 0, nat_lit 5, nat_lit 0, nat_lit 0, [])))) (.branch (nat_lit 27) (.leaf (nat_lit 23, nat_lit 24, nat_lit 2, nat_lit 312, nat_lit 8004, nat_lit 181, [])) (.branch (nat_lit 28) (.leaf (nat_lit 24, nat_lit 27, nat_lit 1, nat_lit 0, nat_lit 0, nat_lit 0, [])) (.leaf (nat_lit 1, nat_lit 28, nat_lit 4, nat_lit 0, nat_lit 0, nat_lit 0, []))))) (.branch (nat_lit 45) (.branch (nat_lit 32) (.leaf (nat_lit 14, nat_lit 29, nat_lit 11, nat_lit 483, nat_lit 51, nat_lit 6152, [])) (.branch (nat_lit 44) (.leaf (nat_lit 8, nat_lit 32, nat_lit 0, nat_lit 44, nat_lit 0, nat_lit 0, [])) (.leaf (nat_lit 1, nat_lit 44, nat_lit 4, nat_lit 0, nat_lit 0, nat_lit 0, [])))) (.branch (nat_lit 47) (.leaf (nat_lit 0, nat_lit 45, nat_lit 1, nat_lit 8, nat_lit 0, nat_lit 0, [])) (.branch (nat_lit 50) (.leaf (nat_lit 23, nat_lit 47, nat_lit 2, nat_lit 312, nat_lit 8004, nat_lit 181, [])) (.leaf (nat_lit 24, nat_lit 50, nat_lit 1, nat_lit 0, nat_lit 0, nat_lit 0, []))))))), [nat_lit 9085, nat_lit 1013, nat_lit 9083, nat_lit 9084])
set_option maxRecDepth 100000 in
def q_M311 : qM × List Nat := ((yX11_odds, cX11_odds, nat_lit 7, some .boolean, nat_lit 11, nat_lit 2, nat_lit 3, nat_lit 0, nat_lit 0, .branch (nat_lit 31) (.branch (nat_lit 13) (.branch (nat_lit 6) (.branch (nat_lit 2) (.branch (nat_lit 1) (.leaf (nat_lit 1, nat_lit 0, nat_lit 4, nat_lit 0, nat_lit 0, nat_lit 0, [])) (.leaf (nat_lit 0, nat_lit 1, nat_lit 0, nat_lit 0, nat_lit 0, nat_lit 0, []))) (.branch (nat_lit 5) (.leaf (nat_lit 15, nat_lit 2, nat_lit 11, nat_lit 93, nat_lit 1, nat_lit 6102, [nat_lit 0])) (.leaf (nat_lit 1, nat_lit 5, nat_lit 4, nat_lit 0, nat_lit 0, nat_lit 0, [])))) (.branch (nat_lit 10) (.branch (nat_lit 7) (.leaf (nat_lit 0, nat_lit 6, nat_lit 0, nat_lit 0, nat_lit 0, nat_lit 0, [])) (.leaf (nat_lit 15, nat_lit 7, nat_lit 11, nat_lit 96, nat_lit 0, nat_lit 6101, [nat_lit 0]))) (.branch (nat_lit 11) (.leaf (nat_lit 1, nat_lit 10, nat_lit 0, nat_lit 2, nat_lit 0, nat_lit 0, [])) (.branch (nat_lit 12) (.leaf (nat_lit 6, nat_lit 11, nat_lit 0, nat_lit 0, nat_lit 0, nat_lit 0, [])) (.leaf (nat_lit 0, nat_lit 12, nat_lit 3, nat_lit 1, nat_lit 0, nat_lit 0, [])))))) (.branch (nat_lit 24) (.branch (nat_lit 19) (.branch (nat_lit 16) (.leaf (nat_lit 0, nat_lit 13, nat_lit 6, nat_lit 486, nat_lit 20, nat_lit 9090, [])) (.leaf (nat_lit 23, nat_lit 16, nat_lit 0, nat_lit 128, nat_lit 7133, nat_lit 183, []))) (.branch (nat_lit 22) (.leaf (nat_lit 8, nat_lit 19, nat_lit 0, nat_lit 49, nat_lit 0, nat_lit 0, [])) (.branch (nat_lit 23) (.leaf (nat_lit 1, nat_lit 22, nat_lit 0, nat_lit 1, nat_lit 0, nat_lit 0, [])) (.leaf (nat_lit 6, nat_lit 23, nat_lit 0, nat_lit 0, nat_lit 0, nat_lit 0, []))))) (.branch (nat_lit 28) (.branch (nat_lit 25) (.leaf (nat_lit 0, nat_lit 24, nat_lit 3, nat_lit 0, nat_lit 0, nat_lit 0, [])) (.leaf (nat_lit 0, nat_lit 25, nat_lit 2, nat_lit 10000, nat_lit 0, nat_lit 0, []))) (.branch (nat_lit 29) (.leaf (nat_lit 1, nat_lit 28, nat_lit 0, nat_lit 2, nat_lit 0, nat_lit 0, [])) (.branch (nat_lit 30) (.leaf (nat_lit 4, nat_lit 29, nat_lit 1, nat_lit 0, nat_lit 0, nat_lit 0, [])) (.leaf (nat_lit 6, nat_lit 30, nat_lit 0, nat_lit 0, nat_lit 0, nat_lit 0, []))))))) (.branch (nat_lit 50) (.branch (nat_lit 39) (.branch (nat_lit 37) (.branch (nat_lit 34) (.leaf (nat_lit 23, nat_lit 31, nat_lit 0, nat_lit 128, nat_lit 7133, nat_lit 183, [])) (.leaf (nat_lit 8, nat_lit 34, nat_lit 0, nat_lit 49, nat_lit 0, nat_lit 0, []))) (.branch (nat_lit 38) (.leaf (nat_lit 1, nat_lit 37, nat_lit 0, nat_lit 3, nat_lit 0, nat_lit 0, [])) (.leaf (nat_lit 6, nat_lit 38, nat_lit 0, nat_lit 0, nat_lit 0, nat_lit 0, [])))) (.branch (nat_lit 43) (.branch (nat_lit 40) (.leaf (nat_lit 0, nat_lit 39, nat_lit 3, nat_lit 0, nat_lit 0, nat_lit 0, [])) (.leaf (nat_lit 0, nat_lit 40, nat_lit 6, nat_lit 415, nat_lit 16, nat_lit 9004, []))) (.branch (nat_lit 46) (.leaf (nat_lit 23, nat_lit 43, nat_lit 0, nat_lit 128, nat_lit 7133, nat_lit 183, [])) (.branch (nat_lit 49) (.leaf (nat_lit 8, nat_lit 46, nat_lit 1, nat_lit 55, nat_lit 0, nat_lit 0, [])) (.leaf (nat_lit 1, nat_lit 49, nat_lit 4, nat_lit 0, nat_lit 0, nat_lit 0, [])))))) (.branch (nat_lit 59) (.branch (nat_lit 54) (.branch (nat_lit 51) (.leaf (nat_lit 0, nat_lit 50, nat_lit 0, nat_lit 5, nat_lit 0, nat_lit 0, [])) (.leaf (nat_lit 23, nat_lit 51, nat_lit 2, nat_lit 108, nat_lit 7038, nat_lit 182, []))) (.branch (nat_lit 55) (.leaf (nat_lit 24, nat_lit 54, nat_lit 1, nat_lit 0, nat_lit 0, nat_lit 0, [])) (.branch (nat_lit 56) (.leaf (nat_lit 1, nat_lit 55, nat_lit 4, nat_lit 0, nat_lit 0, nat_lit 0, [])) (.leaf (nat_lit 23, nat_lit 56, nat_lit 2, nat_lit 477, nat_lit 9049, nat_lit 307, []))))) (.branch (nat_lit 63) (.branch (nat_lit 62) (.leaf (nat_lit 8, nat_lit 59, nat_lit 0, nat_lit 69, nat_lit 0, nat_lit 0, [])) (.leaf (nat_lit 1, nat_lit 62, nat_lit 4, nat_lit 0, nat_lit 0, nat_lit 0, []))) (.branch (nat_lit 65) (.leaf (nat_lit 0, nat_lit 63, nat_lit 1, nat_lit 8, nat_lit 0, nat_lit 0, [])) (.branch (nat_lit 68) (.leaf (nat_lit 23, nat_lit 65, nat_lit 2, nat_lit 108, nat_lit 7038, nat_lit 182, [])) (.leaf (nat_lit 24, nat_lit 68, nat_lit 1, nat_lit 0, nat_lit 0, nat_lit 0, [])))))))), [nat_lit 9089, nat_lit 1013, nat_lit 9087, nat_lit 9088])
set_option maxRecDepth 100000 in
def q_M312 : qM × List Nat := ((yX11_copy, cX11_copy, nat_lit 4, none, nat_lit 11, nat_lit 2, nat_lit 2, nat_lit 0, nat_lit 0, .branch (nat_lit 20) (.branch (nat_lit 10) (.branch (nat_lit 3) (.branch (nat_lit 1) (.leaf (nat_lit 0, nat_lit 0, nat_lit 0, nat_lit 0, nat_lit 0, nat_lit 0, [])) (.branch (nat_lit 2) (.leaf (nat_lit 2, nat_lit 1, nat_lit 0, nat_lit 3, nat_lit 0, nat_lit 0, [])) (.leaf (nat_lit 1, nat_lit 2, nat_lit 0, nat_lit 3, nat_lit 0, nat_lit 0, [])))) (.branch (nat_lit 6) (.leaf (nat_lit 0, nat_lit 3, nat_lit 2, nat_lit 360, nat_lit 0, nat_lit 0, [])) (.branch (nat_lit 9) (.leaf (nat_lit 9, nat_lit 6, nat_lit 3, nat_lit 39, nat_lit 0, nat_lit 0, [])) (.leaf (nat_lit 1, nat_lit 9, nat_lit 4, nat_lit 0, nat_lit 0, nat_lit 0, []))))) (.branch (nat_lit 17) (.branch (nat_lit 13) (.leaf (nat_lit 14, nat_lit 10, nat_lit 11, nat_lit 35, nat_lit 20, nat_lit 6121, [])) (.branch (nat_lit 16) (.leaf (nat_lit 0, nat_lit 13, nat_lit 2, nat_lit 360, nat_lit 0, nat_lit 0, [])) (.leaf (nat_lit 1, nat_lit 16, nat_lit 0, nat_lit 2, nat_lit 0, nat_lit 0, [])))) (.branch (nat_lit 18) (.leaf (nat_lit 4, nat_lit 17, nat_lit 2, nat_lit 0, nat_lit 0, nat_lit 0, [])) (.branch (nat_lit 19) (.leaf (nat_lit 1, nat_lit 18, nat_lit 0, nat_lit 3, nat_lit 0, nat_lit 0, [])) (.leaf (nat_lit 4, nat_lit 19, nat_lit 0, nat_lit 0, nat_lit 0, nat_lit 0, [])))))) (.branch (nat_lit 30) (.branch (nat_lit 27) (.branch (nat_lit 21) (.leaf (nat_lit 1, nat_lit 20, nat_lit 4, nat_lit 0, nat_lit 0, nat_lit 0, [])) (.branch (nat_lit 24) (.leaf (nat_lit 14, nat_lit 21, nat_lit 11, nat_lit 35, nat_lit 20, nat_lit 6121, [])) (.leaf (nat_lit 0, nat_lit 24, nat_lit 2, nat_lit 360, nat_lit 0, nat_lit 0, [])))) (.branch (nat_lit 28) (.leaf (nat_lit 1, nat_lit 27, nat_lit 0, nat_lit 1, nat_lit 0, nat_lit 0, [])) (.branch (nat_lit 29) (.leaf (nat_lit 4, nat_lit 28, nat_lit 2, nat_lit 0, nat_lit 0, nat_lit 0, [])) (.leaf (nat_lit 1, nat_lit 29, nat_lit 0, nat_lit 3, nat_lit 0, nat_lit 0, []))))) (.branch (nat_lit 33) (.branch (nat_lit 31) (.leaf (nat_lit 4, nat_lit 30, nat_lit 0, nat_lit 0, nat_lit 0, nat_lit 0, [])) (.branch (nat_lit 32) (.leaf (nat_lit 20, nat_lit 31, nat_lit 0, nat_lit 0, nat_lit 0, nat_lit 0, [])) (.leaf (nat_lit 21, nat_lit 32, nat_lit 0, nat_lit 0, nat_lit 0, nat_lit 0, [])))) (.branch (nat_lit 36) (.leaf (nat_lit 3, nat_lit 33, nat_lit 0, nat_lit 3, nat_lit 1, nat_lit 0, [])) (.branch (nat_lit 39) (.leaf (nat_lit 10, nat_lit 36, nat_lit 0, nat_lit 2, nat_lit 0, nat_lit 0, [])) (.leaf (nat_lit 24, nat_lit 39, nat_lit 0, nat_lit 0, nat_lit 0, nat_lit 0, []))))))), [nat_lit 9102, nat_lit 1013, nat_lit 9101, nat_lit 126])
set_option maxRecDepth 100000 in
def q_M313 : qM × List Nat := ((yX11_mark, cX11_mark, nat_lit 1, some .int, nat_lit 11, nat_lit 2, nat_lit 0, nat_lit 0, nat_lit 0, .branch (nat_lit 27) (.branch (nat_lit 10) (.branch (nat_lit 5) (.branch (nat_lit 1) (.leaf (nat_lit 1, nat_lit 0, nat_lit 4, nat_lit 0, nat_lit 0, nat_lit 0, [])) (.branch (nat_lit 2) (.leaf (nat_lit 0, nat_lit 1, nat_lit 0, nat_lit 0, nat_lit 0, nat_lit 0, [])) (.leaf (nat_lit 15, nat_lit 2, nat_lit 11, nat_lit 93, nat_lit 1, nat_lit 6102, [nat_lit 0])))) (.branch (nat_lit 6) (.leaf (nat_lit 1, nat_lit 5, nat_lit 4, nat_lit 0, nat_lit 0, nat_lit 0, [])) (.branch (nat_lit 7) (.leaf (nat_lit 0, nat_lit 6, nat_lit 0, nat_lit 0, nat_lit 0, nat_lit 0, [])) (.leaf (nat_lit 15, nat_lit 7, nat_lit 11, nat_lit 96, nat_lit 0, nat_lit 6101, [nat_lit 0]))))) (.branch (nat_lit 15) (.branch (nat_lit 11) (.leaf (nat_lit 1, nat_lit 10, nat_lit 4, nat_lit 0, nat_lit 0, nat_lit 0, [])) (.branch (nat_lit 14) (.leaf (nat_lit 14, nat_lit 11, nat_lit 11, nat_lit 491, nat_lit 23, nat_lit 6124, [])) (.leaf (nat_lit 0, nat_lit 14, nat_lit 0, nat_lit 3, nat_lit 0, nat_lit 0, [])))) (.branch (nat_lit 25) (.leaf (nat_lit 9, nat_lit 15, nat_lit 1, nat_lit 25, nat_lit 0, nat_lit 0, [])) (.branch (nat_lit 26) (.leaf (nat_lit 1, nat_lit 25, nat_lit 4, nat_lit 0, nat_lit 0, nat_lit 0, [])) (.leaf (nat_lit 13, nat_lit 26, nat_lit 0, nat_lit 0, nat_lit 0, nat_lit 0, [])))))) (.branch (nat_lit 37) (.branch (nat_lit 32) (.branch (nat_lit 30) (.leaf (nat_lit 14, nat_lit 27, nat_lit 11, nat_lit 491, nat_lit 23, nat_lit 6124, [])) (.branch (nat_lit 31) (.leaf (nat_lit 0, nat_lit 30, nat_lit 0, nat_lit 1, nat_lit 0, nat_lit 0, [])) (.leaf (nat_lit 4, nat_lit 31, nat_lit 0, nat_lit 0, nat_lit 0, nat_lit 0, [])))) (.branch (nat_lit 35) (.leaf (nat_lit 15, nat_lit 32, nat_lit 11, nat_lit 491, nat_lit 23, nat_lit 6124, [nat_lit 0])) (.branch (nat_lit 36) (.leaf (nat_lit 1, nat_lit 35, nat_lit 4, nat_lit 0, nat_lit 0, nat_lit 0, [])) (.leaf (nat_lit 0, nat_lit 36, nat_lit 0, nat_lit 0, nat_lit 0, nat_lit 0, []))))) (.branch (nat_lit 44) (.branch (nat_lit 38) (.leaf (nat_lit 1, nat_lit 37, nat_lit 4, nat_lit 0, nat_lit 0, nat_lit 0, [])) (.branch (nat_lit 41) (.leaf (nat_lit 14, nat_lit 38, nat_lit 11, nat_lit 491, nat_lit 23, nat_lit 6124, [])) (.leaf (nat_lit 23, nat_lit 41, nat_lit 2, nat_lit 494, nat_lit 9099, nat_lit 312, [])))) (.branch (nat_lit 45) (.leaf (nat_lit 1, nat_lit 44, nat_lit 4, nat_lit 0, nat_lit 0, nat_lit 0, [])) (.branch (nat_lit 48) (.leaf (nat_lit 14, nat_lit 45, nat_lit 11, nat_lit 491, nat_lit 23, nat_lit 6124, [])) (.leaf (nat_lit 24, nat_lit 48, nat_lit 1, nat_lit 0, nat_lit 0, nat_lit 0, []))))))), [nat_lit 9098, nat_lit 1013, nat_lit 9096, nat_lit 9097])
set_option maxRecDepth 100000 in
def q_M314 : qM × List Nat := ((yX11_back, cX11_back, nat_lit 1, some .int, nat_lit 11, nat_lit 2, nat_lit 0, nat_lit 0, nat_lit 0, .branch (nat_lit 10) (.branch (nat_lit 5) (.branch (nat_lit 1) (.leaf (nat_lit 1, nat_lit 0, nat_lit 4, nat_lit 0, nat_lit 0, nat_lit 0, [])) (.branch (nat_lit 2) (.leaf (nat_lit 0, nat_lit 1, nat_lit 0, nat_lit 0, nat_lit 0, nat_lit 0, [])) (.leaf (nat_lit 15, nat_lit 2, nat_lit 11, nat_lit 93, nat_lit 1, nat_lit 6102, [nat_lit 0])))) (.branch (nat_lit 6) (.leaf (nat_lit 1, nat_lit 5, nat_lit 4, nat_lit 0, nat_lit 0, nat_lit 0, [])) (.branch (nat_lit 7) (.leaf (nat_lit 0, nat_lit 6, nat_lit 0, nat_lit 0, nat_lit 0, nat_lit 0, [])) (.leaf (nat_lit 15, nat_lit 7, nat_lit 11, nat_lit 96, nat_lit 0, nat_lit 6101, [nat_lit 0]))))) (.branch (nat_lit 17) (.branch (nat_lit 11) (.leaf (nat_lit 1, nat_lit 10, nat_lit 4, nat_lit 0, nat_lit 0, nat_lit 0, [])) (.branch (nat_lit 14) (.leaf (nat_lit 14, nat_lit 11, nat_lit 11, nat_lit 491, nat_lit 23, nat_lit 6124, [])) (.leaf (nat_lit 8, nat_lit 14, nat_lit 1, nat_lit 24, nat_lit 0, nat_lit 0, [])))) (.branch (nat_lit 20) (.branch (nat_lit 18) (.leaf (nat_lit 1, nat_lit 17, nat_lit 4, nat_lit 0, nat_lit 0, nat_lit 0, [])) (.leaf (nat_lit 0, nat_lit 18, nat_lit 1, nat_lit 8, nat_lit 0, nat_lit 0, []))) (.branch (nat_lit 23) (.leaf (nat_lit 23, nat_lit 20, nat_lit 2, nat_lit 312, nat_lit 8004, nat_lit 181, [])) (.leaf (nat_lit 24, nat_lit 23, nat_lit 1, nat_lit 0, nat_lit 0, nat_lit 0, [])))))), [nat_lit 9106, nat_lit 1013, nat_lit 9104, nat_lit 9105])
set_option maxRecDepth 100000 in
def q_M316 : qM × List Nat := ((yJ9_max_7cf53, cJ9_max_7cf53, nat_lit 2, some .int, nat_lit 0, nat_lit 0, nat_lit 2, nat_lit 0, nat_lit 0, .branch (nat_lit 5) (.branch (nat_lit 1) (.leaf (nat_lit 1, nat_lit 0, nat_lit 0, nat_lit 0, nat_lit 0, nat_lit 0, [])) (.branch (nat_lit 2) (.leaf (nat_lit 1, nat_lit 1, nat_lit 0, nat_lit 1, nat_lit 0, nat_lit 0, [])) (.leaf (nat_lit 9, nat_lit 2, nat_lit 2, nat_lit 9, nat_lit 0, nat_lit 0, [])))) (.branch (nat_lit 9) (.branch (nat_lit 6) (.leaf (nat_lit 1, nat_lit 5, nat_lit 0, nat_lit 0, nat_lit 0, nat_lit 0, [])) (.leaf (nat_lit 10, nat_lit 6, nat_lit 0, nat_lit 10, nat_lit 0, nat_lit 0, []))) (.branch (nat_lit 10) (.leaf (nat_lit 1, nat_lit 9, nat_lit 0, nat_lit 1, nat_lit 0, nat_lit 0, [])) (.leaf (nat_lit 24, nat_lit 10, nat_lit 1, nat_lit 0, nat_lit 0, nat_lit 0, []))))), [nat_lit 4206, nat_lit 1015, nat_lit 4205, nat_lit 0])
set_option maxRecDepth 100000 in
def q_M318 : qM × List Nat := ((yJ9_min_7cf53, cJ9_min_7cf53, nat_lit 2, some .int, nat_lit 0, nat_lit 0, nat_lit 2, nat_lit 0, nat_lit 0, .branch (nat_lit 5) (.branch (nat_lit 1) (.leaf (nat_lit 1, nat_lit 0, nat_lit 0, nat_lit 0, nat_lit 0, nat_lit 0, [])) (.branch (nat_lit 2) (.leaf (nat_lit 1, nat_lit 1, nat_lit 0, nat_lit 1, nat_lit 0, nat_lit 0, [])) (.leaf (nat_lit 9, nat_lit 2, nat_lit 4, nat_lit 9, nat_lit 0, nat_lit 0, [])))) (.branch (nat_lit 9) (.branch (nat_lit 6) (.leaf (nat_lit 1, nat_lit 5, nat_lit 0, nat_lit 0, nat_lit 0, nat_lit 0, [])) (.leaf (nat_lit 10, nat_lit 6, nat_lit 0, nat_lit 10, nat_lit 0, nat_lit 0, []))) (.branch (nat_lit 10) (.leaf (nat_lit 1, nat_lit 9, nat_lit 0, nat_lit 1, nat_lit 0, nat_lit 0, [])) (.leaf (nat_lit 24, nat_lit 10, nat_lit 1, nat_lit 0, nat_lit 0, nat_lit 0, []))))), [nat_lit 3124, nat_lit 1015, nat_lit 3123, nat_lit 0])
set_option maxRecDepth 100000 in
def q_M320 : qM × List Nat := ((yJ7_fill_d0a16, cJ7_fill_d0a16, nat_lit 5, none, nat_lit 0, nat_lit 0, nat_lit 2, nat_lit 0, nat_lit 0, .branch (nat_lit 9) (.branch (nat_lit 3) (.branch (nat_lit 1) (.leaf (nat_lit 0, nat_lit 0, nat_lit 0, nat_lit 0, nat_lit 0, nat_lit 0, [])) (.branch (nat_lit 2) (.leaf (nat_lit 2, nat_lit 1, nat_lit 0, nat_lit 3, nat_lit 0, nat_lit 0, [])) (.leaf (nat_lit 1, nat_lit 2, nat_lit 4, nat_lit 0, nat_lit 0, nat_lit 0, [])))) (.branch (nat_lit 6) (.branch (nat_lit 4) (.leaf (nat_lit 19, nat_lit 3, nat_lit 0, nat_lit 0, nat_lit 0, nat_lit 0, [])) (.leaf (nat_lit 2, nat_lit 4, nat_lit 1, nat_lit 4, nat_lit 0, nat_lit 0, []))) (.branch (nat_lit 7) (.leaf (nat_lit 1, nat_lit 6, nat_lit 0, nat_lit 3, nat_lit 0, nat_lit 0, [])) (.leaf (nat_lit 1, nat_lit 7, nat_lit 1, nat_lit 4, nat_lit 0, nat_lit 0, []))))) (.branch (nat_lit 15) (.branch (nat_lit 13) (.branch (nat_lit 12) (.leaf (nat_lit 9, nat_lit 9, nat_lit 3, nat_lit 22, nat_lit 0, nat_lit 0, [])) (.leaf (nat_lit 1, nat_lit 12, nat_lit 4, nat_lit 0, nat_lit 0, nat_lit 0, []))) (.branch (nat_lit 14) (.leaf (nat_lit 1, nat_lit 13, nat_lit 0, nat_lit 3, nat_lit 0, nat_lit 0, [])) (.leaf (nat_lit 1, nat_lit 14, nat_lit 2, nat_lit 1, nat_lit 0, nat_lit 0, [])))) (.branch (nat_lit 19) (.branch (nat_lit 16) (.leaf (nat_lit 21, nat_lit 15, nat_lit 2, nat_lit 0, nat_lit 0, nat_lit 0, [])) (.leaf (nat_lit 3, nat_lit 16, nat_lit 0, nat_lit 3, nat_lit 1, nat_lit 0, []))) (.branch (nat_lit 22) (.leaf (nat_lit 10, nat_lit 19, nat_lit 0, nat_lit 6, nat_lit 0, nat_lit 0, [])) (.leaf (nat_lit 24, nat_lit 22, nat_lit 0, nat_lit 0, nat_lit 0, nat_lit 0, [])))))), [nat_lit 3058, nat_lit 1006, nat_lit 3057, nat_lit 0])
set_option maxRecDepth 100000 in
def q_M321 : qM × List Nat := ((yJ7_fill_53178, cJ7_fill_53178, nat_lit 4, none, nat_lit 0, nat_lit 0, nat_lit 2, nat_lit 0, nat_lit 0, .branch (nat_lit 7) (.branch (nat_lit 3) (.branch (nat_lit 1) (.leaf (nat_lit 0, nat_lit 0, nat_lit 0, nat_lit 0, nat_lit 0, nat_lit 0, [])) (.branch (nat_lit 2) (.leaf (nat_lit 2, nat_lit 1, nat_lit 0, nat_lit 2, nat_lit 0, nat_lit 0, [])) (.leaf (nat_lit 1, nat_lit 2, nat_lit 4, nat_lit 0, nat_lit 0, nat_lit 0, [])))) (.branch (nat_lit 5) (.branch (nat_lit 4) (.leaf (nat_lit 19, nat_lit 3, nat_lit 0, nat_lit 0, nat_lit 0, nat_lit 0, [])) (.leaf (nat_lit 2, nat_lit 4, nat_lit 0, nat_lit 3, nat_lit 0, nat_lit 0, []))) (.branch (nat_lit 6) (.leaf (nat_lit 1, nat_lit 5, nat_lit 0, nat_lit 2, nat_lit 0, nat_lit 0, [])) (.leaf (nat_lit 1, nat_lit 6, nat_lit 0, nat_lit 3, nat_lit 0, nat_lit 0, []))))) (.branch (nat_lit 13) (.branch (nat_lit 11) (.branch (nat_lit 10) (.leaf (nat_lit 9, nat_lit 7, nat_lit 3, nat_lit 20, nat_lit 0, nat_lit 0, [])) (.leaf (nat_lit 1, nat_lit 10, nat_lit 4, nat_lit 0, nat_lit 0, nat_lit 0, []))) (.branch (nat_lit 12) (.leaf (nat_lit 1, nat_lit 11, nat_lit 0, nat_lit 2, nat_lit 0, nat_lit 0, [])) (.leaf (nat_lit 1, nat_lit 12, nat_lit 0, nat_lit 1, nat_lit 0, nat_lit 0, [])))) (.branch (nat_lit 17) (.branch (nat_lit 14) (.leaf (nat_lit 21, nat_lit 13, nat_lit 0, nat_lit 0, nat_lit 0, nat_lit 0, [])) (.leaf (nat_lit 3, nat_lit 14, nat_lit 0, nat_lit 2, nat_lit 1, nat_lit 0, []))) (.branch (nat_lit 20) (.leaf (nat_lit 10, nat_lit 17, nat_lit 0, nat_lit 5, nat_lit 0, nat_lit 0, [])) (.leaf (nat_lit 24, nat_lit 20, nat_lit 0, nat_lit 0, nat_lit 0, nat_lit 0, [])))))), [nat_lit 1217, nat_lit 1006, nat_lit 1216, nat_lit 0])
end
section
-- 15.tab: all methods; the law's own instructions
set_option maxRecDepth 100000 in
def q_TR : Lean.RArray (qM × List Nat) := .branch (nat_lit 165) (.branch (nat_lit 112) (.branch (nat_lit 43) (.branch (nat_lit 20) (.branch (nat_lit 7) (.branch (nat_lit 3) (.branch (nat_lit 1) (.leaf q_M0) (.branch (nat_lit 2) (.leaf q_M1) (.leaf q_M2))) (.branch (nat_lit 4) (.leaf q_M3) (.branch (nat_lit 6) (.leaf q_M4) (.leaf q_M6)))) (.branch (nat_lit 14) (.branch (nat_lit 8) (.leaf q_M7) (.branch (nat_lit 10) (.leaf q_M8) (.leaf q_M10))) (.branch (nat_lit 16) (.leaf q_M14) (.branch (nat_lit 17) (.leaf q_M16) (.leaf q_M17))))) (.branch (nat_lit 36) (.branch (nat_lit 25) (.branch (nat_lit 21) (.leaf q_M20) (.branch (nat_lit 24) (.leaf q_M21) (.leaf q_M24))) (.branch (nat_lit 33) (.leaf q_M25) (.branch (nat_lit 34) (.leaf q_M33) (.leaf q_M34)))) (.branch (nat_lit 40) (.branch (nat_lit 37) (.leaf q_M36) (.branch (nat_lit 39) (.leaf q_M37) (.leaf q_M39))) (.branch (nat_lit 41) (.leaf q_M40) (.branch (nat_lit 42) (.leaf q_M41) (.leaf q_M42)))))) (.branch (nat_lit 65) (.branch (nat_lit 51) (.branch (nat_lit 48) (.branch (nat_lit 46) (.leaf q_M43) (.branch (nat_lit 47) (.leaf q_M46) (.leaf q_M47))) (.branch (nat_lit 49) (.leaf q_M48) (.branch (nat_lit 50) (.leaf q_M49) (.leaf q_M50)))) (.branch (nat_lit 59) (.branch (nat_lit 53) (.leaf q_M51) (.branch (nat_lit 57) (.leaf q_M53) (.leaf q_M57))) (.branch (nat_lit 60) (.leaf q_M59) (.branch (nat_lit 64) (.leaf q_M60) (.leaf q_M64))))) (.branch (nat_lit 81) (.branch (nat_lit 78) (.branch (nat_lit 69) (.leaf q_M65) (.branch (nat_lit 77) (.leaf q_M69) (.leaf q_M77))) (.branch (nat_lit 79) (.leaf q_M78) (.branch (nat_lit 80) (.leaf q_M79) (.leaf q_M80)))) (.branch (nat_lit 102) (.branch (nat_lit 100) (.leaf q_M81) (.branch (nat_lit 101) (.leaf q_M100) (.leaf q_M101))) (.branch (nat_lit 110) (.branch (nat_lit 109) (.leaf q_M102) (.leaf q_M109)) (.branch (nat_lit 111) (.leaf q_M110) (.leaf q_M111))))))) (.branch (nat_lit 137) (.branch (nat_lit 125) (.branch (nat_lit 119) (.branch (nat_lit 115) (.branch (nat_lit 113) (.leaf q_M112) (.branch (nat_lit 114) (.leaf q_M113) (.leaf q_M114))) (.branch (nat_lit 116) (.leaf q_M115) (.branch (nat_lit 117) (.leaf q_M116) (.leaf q_M117)))) (.branch (nat_lit 122) (.branch (nat_lit 120) (.leaf q_M119) (.branch (nat_lit 121) (.leaf q_M120) (.leaf q_M121))) (.branch (nat_lit 123) (.leaf q_M122) (.branch (nat_lit 124) (.leaf q_M123) (.leaf q_M124))))) (.branch (nat_lit 131) (.branch (nat_lit 128) (.branch (nat_lit 126) (.leaf q_M125) (.branch (nat_lit 127) (.leaf q_M126) (.leaf q_M127))) (.branch (nat_lit 129) (.leaf q_M128) (.branch (nat_lit 130) (.leaf q_M129) (.leaf q_M130)))) (.branch (nat_lit 134) (.branch (nat_lit 132) (.leaf q_M131) (.branch (nat_lit 133) (.leaf q_M132) (.leaf q_M133))) (.branch (nat_lit 135) (.leaf q_M134) (.branch (nat_lit 136) (.leaf q_M135) (.leaf q_M136)))))) (.branch (nat_lit 149) (.branch (nat_lit 143) (.branch (nat_lit 140) (.branch (nat_lit 138) (.leaf q_M137) (.branch (nat_lit 139) (.leaf q_M138) (.leaf q_M139))) (.branch (nat_lit 141) (.leaf q_M140) (.branch (nat_lit 142) (.leaf q_M141) (.leaf q_M142)))) (.branch (nat_lit 146) (.branch (nat_lit 144) (.leaf q_M143) (.branch (nat_lit 145) (.leaf q_M144) (.leaf q_M145))) (.branch (nat_lit 147) (.leaf q_M146) (.branch (nat_lit 148) (.leaf q_M147) (.leaf q_M148))))) (.branch (nat_lit 155) (.branch (nat_lit 152) (.branch (nat_lit 150) (.leaf q_M149) (.branch (nat_lit 151) (.leaf q_M150) (.leaf q_M151))) (.branch (nat_lit 153) (.leaf q_M152) (.branch (nat_lit 154) (.leaf q_M153) (.leaf q_M154)))) (.branch (nat_lit 158) (.branch (nat_lit 156) (.leaf q_M155) (.branch (nat_lit 157) (.leaf q_M156) (.leaf q_M157))) (.branch (nat_lit 162) (.branch (nat_lit 159) (.leaf q_M158) (.leaf q_M159)) (.branch (nat_lit 164) (.leaf q_M162) (.leaf q_M164)))))))) (.branch (nat_lit 251) (.branch (nat_lit 193) (.branch (nat_lit 178) (.branch (nat_lit 171) (.branch (nat_lit 168) (.branch (nat_lit 166) (.leaf q_M165) (.branch (nat_lit 167) (.leaf q_M166) (.leaf q_M167))) (.branch (nat_lit 169) (.leaf q_M168) (.branch (nat_lit 170) (.leaf q_M169) (.leaf q_M170)))) (.branch (nat_lit 175) (.branch (nat_lit 172) (.leaf q_M171) (.branch (nat_lit 173) (.leaf q_M172) (.leaf q_M173))) (.branch (nat_lit 176) (.leaf q_M175) (.branch (nat_lit 177) (.leaf q_M176) (.leaf q_M177))))) (.branch (nat_lit 186) (.branch (nat_lit 181) (.branch (nat_lit 179) (.leaf q_M178) (.branch (nat_lit 180) (.leaf q_M179) (.leaf q_M180))) (.branch (nat_lit 182) (.leaf q_M181) (.branch (nat_lit 183) (.leaf q_M182) (.leaf q_M183)))) (.branch (nat_lit 189) (.branch (nat_lit 187) (.leaf q_M186) (.branch (nat_lit 188) (.leaf q_M187) (.leaf q_M188))) (.branch (nat_lit 190) (.leaf q_M189) (.branch (nat_lit 191) (.leaf q_M190) (.leaf q_M191)))))) (.branch (nat_lit 222) (.branch (nat_lit 203) (.branch (nat_lit 200) (.branch (nat_lit 198) (.leaf q_M193) (.branch (nat_lit 199) (.leaf q_M198) (.leaf q_M199))) (.branch (nat_lit 201) (.leaf q_M200) (.branch (nat_lit 202) (.leaf q_M201) (.leaf q_M202)))) (.branch (nat_lit 219) (.branch (nat_lit 217) (.leaf q_M203) (.branch (nat_lit 218) (.leaf q_M217) (.leaf q_M218))) (.branch (nat_lit 220) (.leaf q_M219) (.branch (nat_lit 221) (.leaf q_M220) (.leaf q_M221))))) (.branch (nat_lit 234) (.branch (nat_lit 225) (.branch (nat_lit 223) (.leaf q_M222) (.branch (nat_lit 224) (.leaf q_M223) (.leaf q_M224))) (.branch (nat_lit 226) (.leaf q_M225) (.branch (nat_lit 231) (.leaf q_M226) (.leaf q_M231)))) (.branch (nat_lit 243) (.branch (nat_lit 235) (.leaf q_M234) (.branch (nat_lit 236) (.leaf q_M235) (.leaf q_M236))) (.branch (nat_lit 248) (.branch (nat_lit 247) (.leaf q_M243) (.leaf q_M247)) (.branch (nat_lit 250) (.leaf q_M248) (.leaf q_M250))))))) (.branch (nat_lit 280) (.branch (nat_lit 263) (.branch (nat_lit 257) (.branch (nat_lit 254) (.branch (nat_lit 252) (.leaf q_M251) (.branch (nat_lit 253) (.leaf q_M252) (.leaf q_M253))) (.branch (nat_lit 255) (.leaf q_M254) (.branch (nat_lit 256) (.leaf q_M255) (.leaf q_M256)))) (.branch (nat_lit 260) (.branch (nat_lit 258) (.leaf q_M257) (.branch (nat_lit 259) (.leaf q_M258) (.leaf q_M259))) (.branch (nat_lit 261) (.leaf q_M260) (.branch (nat_lit 262) (.leaf q_M261) (.leaf q_M262))))) (.branch (nat_lit 273) (.branch (nat_lit 270) (.branch (nat_lit 266) (.leaf q_M263) (.branch (nat_lit 268) (.leaf q_M266) (.leaf q_M268))) (.branch (nat_lit 271) (.leaf q_M270) (.branch (nat_lit 272) (.leaf q_M271) (.leaf q_M272)))) (.branch (nat_lit 276) (.branch (nat_lit 274) (.leaf q_M273) (.branch (nat_lit 275) (.leaf q_M274) (.leaf q_M275))) (.branch (nat_lit 278) (.leaf q_M276) (.branch (nat_lit 279) (.leaf q_M278) (.leaf q_M279)))))) (.branch (nat_lit 298) (.branch (nat_lit 292) (.branch (nat_lit 287) (.branch (nat_lit 281) (.leaf q_M280) (.branch (nat_lit 283) (.leaf q_M281) (.leaf q_M283))) (.branch (nat_lit 289) (.leaf q_M287) (.branch (nat_lit 290) (.leaf q_M289) (.leaf q_M290)))) (.branch (nat_lit 295) (.branch (nat_lit 293) (.leaf q_M292) (.branch (nat_lit 294) (.leaf q_M293) (.leaf q_M294))) (.branch (nat_lit 296) (.leaf q_M295) (.branch (nat_lit 297) (.leaf q_M296) (.leaf q_M297))))) (.branch (nat_lit 312) (.branch (nat_lit 308) (.branch (nat_lit 299) (.leaf q_M298) (.branch (nat_lit 307) (.leaf q_M299) (.leaf q_M307))) (.branch (nat_lit 309) (.leaf q_M308) (.branch (nat_lit 311) (.leaf q_M309) (.leaf q_M311)))) (.branch (nat_lit 316) (.branch (nat_lit 313) (.leaf q_M312) (.branch (nat_lit 314) (.leaf q_M313) (.leaf q_M314))) (.branch (nat_lit 320) (.branch (nat_lit 318) (.leaf q_M316) (.leaf q_M318)) (.branch (nat_lit 321) (.leaf q_M320) (.leaf q_M321))))))))
noncomputable def q_T (id : Nat) : qM := (q_TR.get id).1
set_option maxRecDepth 100000 in
def q_ML : qM := (yL_law, code, nat_lit 4, some .boolean, nat_lit 0, nat_lit 0, nat_lit 1, nat_lit 600000, nat_lit 7302250, .branch (nat_lit 965) (.branch (nat_lit 570) (.branch (nat_lit 409) (.branch (nat_lit 321) (.branch (nat_lit 277) (.branch (nat_lit 28) (.branch (nat_lit 16) (.branch (nat_lit 8) (.branch (nat_lit 4) (.branch (nat_lit 3) (.leaf (nat_lit 22, nat_lit 0, nat_lit 10, nat_lit 7, nat_lit 10211001, nat_lit 1020, [nat_lit 0, nat_lit 2, nat_lit 2, nat_lit 3, nat_lit 3, nat_lit 3, nat_lit 3, nat_lit 0, nat_lit 3, nat_lit 3, nat_lit 3, nat_lit 3, nat_lit 3, nat_lit 3, nat_lit 0, nat_lit 0, nat_lit 3, nat_lit 3, nat_lit 3])) (.leaf (nat_lit 13, nat_lit 3, nat_lit 0, nat_lit 0, nat_lit 0, nat_lit 0, []))) (.branch (nat_lit 7) (.leaf (nat_lit 23, nat_lit 4, nat_lit 1, nat_lit 9, nat_lit 1022, nat_lit 109, [])) (.leaf (nat_lit 2, nat_lit 7, nat_lit 4, nat_lit 1, nat_lit 0, nat_lit 0, [])))) (.branch (nat_lit 12) (.branch (nat_lit 11) (.leaf (nat_lit 22, nat_lit 8, nat_lit 11, nat_lit 10, nat_lit 60961013, nat_lit 6095, [nat_lit 0, nat_lit 0, nat_lit 2, nat_lit 2, nat_lit 3, nat_lit 3, nat_lit 3, nat_lit 3, nat_lit 0, nat_lit 0, nat_lit 0, nat_lit 0, nat_lit 0, nat_lit 0, nat_lit 0, nat_lit 0, nat_lit 0, nat_lit 0, nat_lit 0, nat_lit 2, nat_lit 3, nat_lit 3, nat_lit 3, nat_lit 0, nat_lit 3, nat_lit 3, nat_lit 3, nat_lit 3, nat_lit 3, nat_lit 0, nat_lit 3, nat_lit 3, nat_lit 0, nat_lit 0, nat_lit 0, nat_lit 3, nat_lit 3, nat_lit 3, nat_lit 3, nat_lit 3, nat_lit 0, nat_lit 3, nat_lit 3, nat_lit 0, nat_lit 0, nat_lit 0, nat_lit 0, nat_lit 0, nat_lit 0, nat_lit 0, nat_lit 1, nat_lit 1, nat_lit 3])) (.leaf (nat_lit 13, nat_lit 11, nat_lit 0, nat_lit 0, nat_lit 0, nat_lit 0, []))) (.branch (nat_lit 15) (.leaf (nat_lit 23, nat_lit 12, nat_lit 1, nat_lit 12, nat_lit 6097, nat_lit 177, [])) (.leaf (nat_lit 2, nat_lit 15, nat_lit 4, nat_lit 2, nat_lit 0, nat_lit 0, []))))) (.branch (nat_lit 20) (.branch (nat_lit 18) (.branch (nat_lit 17) (.leaf (nat_lit 0, nat_lit 16, nat_lit 0, nat_lit 0, nat_lit 0, nat_lit 0, [])) (.leaf (nat_lit 2, nat_lit 17, nat_lit 0, nat_lit 3, nat_lit 0, nat_lit 0, []))) (.branch (nat_lit 19) (.leaf (nat_lit 1, nat_lit 18, nat_lit 0, nat_lit 3, nat_lit 0, nat_lit 0, [])) (.leaf (nat_lit 1, nat_lit 19, nat_lit 4, nat_lit 0, nat_lit 0, nat_lit 0, [])))) (.branch (nat_lit 23) (.branch (nat_lit 21) (.leaf (nat_lit 19, nat_lit 20, nat_lit 0, nat_lit 0, nat_lit 0, nat_lit 0, [])) (.leaf (nat_lit 0, nat_lit 21, nat_lit 1, nat_lit 6, nat_lit 0, nat_lit 0, []))) (.branch (nat_lit 24) (.leaf (nat_lit 4, nat_lit 23, nat_lit 1, nat_lit 0, nat_lit 0, nat_lit 0, [])) (.branch (nat_lit 27) (.leaf (nat_lit 9, nat_lit 24, nat_lit 4, nat_lit 1746, nat_lit 0, nat_lit 0, [])) (.leaf (nat_lit 1, nat_lit 27, nat_lit 4, nat_lit 0, nat_lit 0, nat_lit 0, []))))))) (.branch (nat_lit 260) (.branch (nat_lit 33) (.branch (nat_lit 30) (.branch (nat_lit 29) (.leaf (nat_lit 1, nat_lit 28, nat_lit 0, nat_lit 3, nat_lit 0, nat_lit 0, [])) (.leaf (nat_lit 20, nat_lit 29, nat_lit 0, nat_lit 0, nat_lit 0, nat_lit 0, []))) (.branch (nat_lit 32) (.leaf (nat_lit 0, nat_lit 30, nat_lit 1, nat_lit 63, nat_lit 0, nat_lit 0, [])) (.leaf (nat_lit 4, nat_lit 32, nat_lit 3, nat_lit 0, nat_lit 0, nat_lit 0, [])))) (.branch (nat_lit 253) (.branch (nat_lit 252) (.leaf (nat_lit 12, nat_lit 33, nat_lit 0, nat_lit 1740, nat_lit 219, nat_lit 0, [nat_lit 252, nat_lit 265, nat_lit 279, nat_lit 293, nat_lit 336, nat_lit 409, nat_lit 443, nat_lit 506, nat_lit 569, nat_lit 592, nat_lit 615, nat_lit 638, nat_lit 661, nat_lit 694, nat_lit 727, nat_lit 760, nat_lit 783, nat_lit 806, nat_lit 819, nat_lit 842, nat_lit 855, nat_lit 868, nat_lit 881, nat_lit 904, nat_lit 937, nat_lit 950, nat_lit 963, nat_lit 1002, nat_lit 1041, nat_lit 1080, nat_lit 1113, nat_lit 1126, nat_lit 1175, nat_lit 1224, nat_lit 1273, nat_lit 1286, nat_lit 1319, nat_lit 1358, nat_lit 1371, nat_lit 1394, nat_lit 1437, nat_lit 1490, nat_lit 1533, nat_lit 1546, nat_lit 1559, nat_lit 1592, nat_lit 1615, nat_lit 1648, nat_lit 1671, nat_lit 1714, nat_lit 1727])) (.leaf (nat_lit 1, nat_lit 252, nat_lit 4, nat_lit 1, nat_lit 0, nat_lit 0, []))) (.branch (nat_lit 256) (.leaf (nat_lit 23, nat_lit 253, nat_lit 2, nat_lit 13, nat_lit 3025, nat_lit 110, [])) (.branch (nat_lit 257) (.leaf (nat_lit 1, nat_lit 256, nat_lit 4, nat_lit 2, nat_lit 0, nat_lit 0, [])) (.leaf (nat_lit 23, nat_lit 257, nat_lit 2, nat_lit 17, nat_lit 7022, nat_lit 178, [])))))) (.branch (nat_lit 266) (.branch (nat_lit 264) (.branch (nat_lit 263) (.leaf (nat_lit 9, nat_lit 260, nat_lit 0, nat_lit 1740, nat_lit 0, nat_lit 0, [])) (.leaf (nat_lit 0, nat_lit 263, nat_lit 0, nat_lit 0, nat_lit 0, nat_lit 0, []))) (.branch (nat_lit 265) (.leaf (nat_lit 24, nat_lit 264, nat_lit 1, nat_lit 0, nat_lit 0, nat_lit 0, [])) (.leaf (nat_lit 1, nat_lit 265, nat_lit 4, nat_lit 1, nat_lit 0, nat_lit 0, [])))) (.branch (nat_lit 270) (.branch (nat_lit 269) (.leaf (nat_lit 23, nat_lit 266, nat_lit 2, nat_lit 18, nat_lit 3029, nat_lit 111, [])) (.leaf (nat_lit 1, nat_lit 269, nat_lit 4, nat_lit 2, nat_lit 0, nat_lit 0, []))) (.branch (nat_lit 273) (.leaf (nat_lit 23, nat_lit 270, nat_lit 2, nat_lit 22, nat_lit 7026, nat_lit 179, [])) (.branch (nat_lit 274) (.leaf (nat_lit 7, nat_lit 273, nat_lit 0, nat_lit 0, nat_lit 0, nat_lit 0, [])) (.leaf (nat_lit 8, nat_lit 274, nat_lit 0, nat_lit 1740, nat_lit 0, nat_lit 0, [])))))))) (.branch (nat_lit 301) (.branch (nat_lit 292) (.branch (nat_lit 283) (.branch (nat_lit 279) (.branch (nat_lit 278) (.leaf (nat_lit 0, nat_lit 277, nat_lit 0, nat_lit 0, nat_lit 0, nat_lit 0, [])) (.leaf (nat_lit 24, nat_lit 278, nat_lit 1, nat_lit 0, nat_lit 0, nat_lit 0, []))) (.branch (nat_lit 280) (.leaf (nat_lit 1, nat_lit 279, nat_lit 4, nat_lit 1, nat_lit 0, nat_lit 0, [])) (.leaf (nat_lit 23, nat_lit 280, nat_lit 2, nat_lit 23, nat_lit 3033, nat_lit 112, [])))) (.branch (nat_lit 287) (.branch (nat_lit 284) (.leaf (nat_lit 1, nat_lit 283, nat_lit 4, nat_lit 2, nat_lit 0, nat_lit 0, [])) (.leaf (nat_lit 23, nat_lit 284, nat_lit 2, nat_lit 26, nat_lit 7030, nat_lit 180, []))) (.branch (nat_lit 288) (.leaf (nat_lit 7, nat_lit 287, nat_lit 0, nat_lit 0, nat_lit 0, nat_lit 0, [])) (.branch (nat_lit 291) (.leaf (nat_lit 8, nat_lit 288, nat_lit 0, nat_lit 1740, nat_lit 0, nat_lit 0, [])) (.leaf (nat_lit 0, nat_lit 291, nat_lit 0, nat_lit 0, nat_lit 0, nat_lit 0, [])))))) (.branch (nat_lit 296) (.branch (nat_lit 294) (.branch (nat_lit 293) (.leaf (nat_lit 24, nat_lit 292, nat_lit 1, nat_lit 0, nat_lit 0, nat_lit 0, [])) (.leaf (nat_lit 1, nat_lit 293, nat_lit 4, nat_lit 1, nat_lit 0, nat_lit 0, []))) (.branch (nat_lit 295) (.leaf (nat_lit 1, nat_lit 294, nat_lit 4, nat_lit 0, nat_lit 0, nat_lit 0, [])) (.leaf (nat_lit 1, nat_lit 295, nat_lit 0, nat_lit 3, nat_lit 0, nat_lit 0, [])))) (.branch (nat_lit 298) (.branch (nat_lit 297) (.leaf (nat_lit 0, nat_lit 296, nat_lit 0, nat_lit 1, nat_lit 0, nat_lit 0, [])) (.leaf (nat_lit 4, nat_lit 297, nat_lit 0, nat_lit 0, nat_lit 0, nat_lit 0, []))) (.branch (nat_lit 299) (.leaf (nat_lit 20, nat_lit 298, nat_lit 0, nat_lit 0, nat_lit 0, nat_lit 0, [])) (.branch (nat_lit 300) (.leaf (nat_lit 1, nat_lit 299, nat_lit 4, nat_lit 0, nat_lit 0, nat_lit 0, [])) (.leaf (nat_lit 1, nat_lit 300, nat_lit 0, nat_lit 3, nat_lit 0, nat_lit 0, []))))))) (.branch (nat_lit 312) (.branch (nat_lit 305) (.branch (nat_lit 303) (.branch (nat_lit 302) (.leaf (nat_lit 0, nat_lit 301, nat_lit 0, nat_lit 2, nat_lit 0, nat_lit 0, [])) (.leaf (nat_lit 4, nat_lit 302, nat_lit 0, nat_lit 0, nat_lit 0, nat_lit 0, []))) (.branch (nat_lit 304) (.leaf (nat_lit 20, nat_lit 303, nat_lit 0, nat_lit 0, nat_lit 0, nat_lit 0, [])) (.leaf (nat_lit 1, nat_lit 304, nat_lit 4, nat_lit 0, nat_lit 0, nat_lit 0, [])))) (.branch (nat_lit 307) (.branch (nat_lit 306) (.leaf (nat_lit 1, nat_lit 305, nat_lit 0, nat_lit 3, nat_lit 0, nat_lit 0, [])) (.leaf (nat_lit 0, nat_lit 306, nat_lit 0, nat_lit 3, nat_lit 0, nat_lit 0, []))) (.branch (nat_lit 308) (.leaf (nat_lit 4, nat_lit 307, nat_lit 0, nat_lit 0, nat_lit 0, nat_lit 0, [])) (.branch (nat_lit 309) (.leaf (nat_lit 20, nat_lit 308, nat_lit 0, nat_lit 0, nat_lit 0, nat_lit 0, [])) (.leaf (nat_lit 23, nat_lit 309, nat_lit 2, nat_lit 27, nat_lit 3037, nat_lit 122, [])))))) (.branch (nat_lit 316) (.branch (nat_lit 314) (.branch (nat_lit 313) (.leaf (nat_lit 1, nat_lit 312, nat_lit 4, nat_lit 2, nat_lit 0, nat_lit 0, [])) (.leaf (nat_lit 1, nat_lit 313, nat_lit 4, nat_lit 0, nat_lit 0, nat_lit 0, []))) (.branch (nat_lit 315) (.leaf (nat_lit 1, nat_lit 314, nat_lit 0, nat_lit 3, nat_lit 0, nat_lit 0, [])) (.leaf (nat_lit 0, nat_lit 315, nat_lit 0, nat_lit 1, nat_lit 0, nat_lit 0, [])))) (.branch (nat_lit 318) (.branch (nat_lit 317) (.leaf (nat_lit 4, nat_lit 316, nat_lit 0, nat_lit 0, nat_lit 0, nat_lit 0, [])) (.leaf (nat_lit 20, nat_lit 317, nat_lit 0, nat_lit 0, nat_lit 0, nat_lit 0, []))) (.branch (nat_lit 319) (.leaf (nat_lit 1, nat_lit 318, nat_lit 4, nat_lit 0, nat_lit 0, nat_lit 0, [])) (.branch (nat_lit 320) (.leaf (nat_lit 1, nat_lit 319, nat_lit 0, nat_lit 3, nat_lit 0, nat_lit 0, [])) (.leaf (nat_lit 0, nat_lit 320, nat_lit 0, nat_lit 2, nat_lit 0, nat_lit 0, []))))))))) (.branch (nat_lit 362) (.branch (nat_lit 343) (.branch (nat_lit 334) (.branch (nat_lit 325) (.branch (nat_lit 323) (.branch (nat_lit 322) (.leaf (nat_lit 4, nat_lit 321, nat_lit 0, nat_lit 0, nat_lit 0, nat_lit 0, [])) (.leaf (nat_lit 20, nat_lit 322, nat_lit 0, nat_lit 0, nat_lit 0, nat_lit 0, []))) (.branch (nat_lit 324) (.leaf (nat_lit 1, nat_lit 323, nat_lit 4, nat_lit 0, nat_lit 0, nat_lit 0, [])) (.leaf (nat_lit 1, nat_lit 324, nat_lit 0, nat_lit 3, nat_lit 0, nat_lit 0, [])))) (.branch (nat_lit 327) (.branch (nat_lit 326) (.leaf (nat_lit 0, nat_lit 325, nat_lit 0, nat_lit 3, nat_lit 0, nat_lit 0, [])) (.leaf (nat_lit 4, nat_lit 326, nat_lit 0, nat_lit 0, nat_lit 0, nat_lit 0, []))) (.branch (nat_lit 328) (.leaf (nat_lit 20, nat_lit 327, nat_lit 0, nat_lit 0, nat_lit 0, nat_lit 0, [])) (.branch (nat_lit 331) (.leaf (nat_lit 23, nat_lit 328, nat_lit 2, nat_lit 31, nat_lit 7034, nat_lit 186, [])) (.leaf (nat_lit 9, nat_lit 331, nat_lit 0, nat_lit 1740, nat_lit 0, nat_lit 0, [])))))) (.branch (nat_lit 338) (.branch (nat_lit 336) (.branch (nat_lit 335) (.leaf (nat_lit 0, nat_lit 334, nat_lit 0, nat_lit 0, nat_lit 0, nat_lit 0, [])) (.leaf (nat_lit 24, nat_lit 335, nat_lit 1, nat_lit 0, nat_lit 0, nat_lit 0, []))) (.branch (nat_lit 337) (.leaf (nat_lit 1, nat_lit 336, nat_lit 4, nat_lit 1, nat_lit 0, nat_lit 0, [])) (.leaf (nat_lit 1, nat_lit 337, nat_lit 4, nat_lit 0, nat_lit 0, nat_lit 0, [])))) (.branch (nat_lit 340) (.branch (nat_lit 339) (.leaf (nat_lit 1, nat_lit 338, nat_lit 0, nat_lit 3, nat_lit 0, nat_lit 0, [])) (.leaf (nat_lit 0, nat_lit 339, nat_lit 0, nat_lit 1, nat_lit 0, nat_lit 0, []))) (.branch (nat_lit 341) (.leaf (nat_lit 4, nat_lit 340, nat_lit 0, nat_lit 0, nat_lit 0, nat_lit 0, [])) (.branch (nat_lit 342) (.leaf (nat_lit 20, nat_lit 341, nat_lit 0, nat_lit 0, nat_lit 0, nat_lit 0, [])) (.leaf (nat_lit 1, nat_lit 342, nat_lit 4, nat_lit 0, nat_lit 0, nat_lit 0, []))))))) (.branch (nat_lit 352) (.branch (nat_lit 347) (.branch (nat_lit 345) (.branch (nat_lit 344) (.leaf (nat_lit 1, nat_lit 343, nat_lit 0, nat_lit 3, nat_lit 0, nat_lit 0, [])) (.leaf (nat_lit 0, nat_lit 344, nat_lit 0, nat_lit 2, nat_lit 0, nat_lit 0, []))) (.branch (nat_lit 346) (.leaf (nat_lit 4, nat_lit 345, nat_lit 0, nat_lit 0, nat_lit 0, nat_lit 0, [])) (.leaf (nat_lit 20, nat_lit 346, nat_lit 0, nat_lit 0, nat_lit 0, nat_lit 0, [])))) (.branch (nat_lit 349) (.branch (nat_lit 348) (.leaf (nat_lit 1, nat_lit 347, nat_lit 4, nat_lit 0, nat_lit 0, nat_lit 0, [])) (.leaf (nat_lit 1, nat_lit 348, nat_lit 0, nat_lit 3, nat_lit 0, nat_lit 0, []))) (.branch (nat_lit 350) (.leaf (nat_lit 0, nat_lit 349, nat_lit 0, nat_lit 3, nat_lit 0, nat_lit 0, [])) (.branch (nat_lit 351) (.leaf (nat_lit 4, nat_lit 350, nat_lit 0, nat_lit 0, nat_lit 0, nat_lit 0, [])) (.leaf (nat_lit 20, nat_lit 351, nat_lit 0, nat_lit 0, nat_lit 0, nat_lit 0, [])))))) (.branch (nat_lit 357) (.branch (nat_lit 355) (.branch (nat_lit 353) (.leaf (nat_lit 6, nat_lit 352, nat_lit 0, nat_lit 0, nat_lit 0, nat_lit 0, [])) (.leaf (nat_lit 0, nat_lit 353, nat_lit 1, nat_lit 32, nat_lit 0, nat_lit 0, []))) (.branch (nat_lit 356) (.leaf (nat_lit 5, nat_lit 355, nat_lit 7, nat_lit 0, nat_lit 0, nat_lit 0, [])) (.leaf (nat_lit 1, nat_lit 356, nat_lit 4, nat_lit 0, nat_lit 0, nat_lit 0, [])))) (.branch (nat_lit 359) (.branch (nat_lit 358) (.leaf (nat_lit 1, nat_lit 357, nat_lit 0, nat_lit 3, nat_lit 0, nat_lit 0, [])) (.leaf (nat_lit 0, nat_lit 358, nat_lit 0, nat_lit 4, nat_lit 0, nat_lit 0, []))) (.branch (nat_lit 360) (.leaf (nat_lit 4, nat_lit 359, nat_lit 0, nat_lit 0, nat_lit 0, nat_lit 0, [])) (.branch (nat_lit 361) (.leaf (nat_lit 20, nat_lit 360, nat_lit 0, nat_lit 0, nat_lit 0, nat_lit 0, [])) (.leaf (nat_lit 6, nat_lit 361, nat_lit 0, nat_lit 0, nat_lit 0, nat_lit 0, [])))))))) (.branch (nat_lit 384) (.branch (nat_lit 375) (.branch (nat_lit 370) (.branch (nat_lit 366) (.branch (nat_lit 365) (.leaf (nat_lit 0, nat_lit 362, nat_lit 6, nat_lit 32, nat_lit 4294967295, nat_lit 9107, [])) (.leaf (nat_lit 5, nat_lit 365, nat_lit 3, nat_lit 0, nat_lit 0, nat_lit 0, []))) (.branch (nat_lit 367) (.leaf (nat_lit 5, nat_lit 366, nat_lit 4, nat_lit 0, nat_lit 0, nat_lit 0, [])) (.leaf (nat_lit 23, nat_lit 367, nat_lit 2, nat_lit 34, nat_lit 3063, nat_lit 123, [])))) (.branch (nat_lit 372) (.branch (nat_lit 371) (.leaf (nat_lit 1, nat_lit 370, nat_lit 4, nat_lit 2, nat_lit 0, nat_lit 0, [])) (.leaf (nat_lit 1, nat_lit 371, nat_lit 4, nat_lit 0, nat_lit 0, nat_lit 0, []))) (.branch (nat_lit 373) (.leaf (nat_lit 1, nat_lit 372, nat_lit 0, nat_lit 3, nat_lit 0, nat_lit 0, [])) (.branch (nat_lit 374) (.leaf (nat_lit 0, nat_lit 373, nat_lit 0, nat_lit 1, nat_lit 0, nat_lit 0, [])) (.leaf (nat_lit 4, nat_lit 374, nat_lit 0, nat_lit 0, nat_lit 0, nat_lit 0, [])))))) (.branch (nat_lit 379) (.branch (nat_lit 377) (.branch (nat_lit 376) (.leaf (nat_lit 20, nat_lit 375, nat_lit 0, nat_lit 0, nat_lit 0, nat_lit 0, [])) (.leaf (nat_lit 1, nat_lit 376, nat_lit 4, nat_lit 0, nat_lit 0, nat_lit 0, []))) (.branch (nat_lit 378) (.leaf (nat_lit 1, nat_lit 377, nat_lit 0, nat_lit 3, nat_lit 0, nat_lit 0, [])) (.leaf (nat_lit 0, nat_lit 378, nat_lit 0, nat_lit 2, nat_lit 0, nat_lit 0, [])))) (.branch (nat_lit 381) (.branch (nat_lit 380) (.leaf (nat_lit 4, nat_lit 379, nat_lit 0, nat_lit 0, nat_lit 0, nat_lit 0, [])) (.leaf (nat_lit 20, nat_lit 380, nat_lit 0, nat_lit 0, nat_lit 0, nat_lit 0, []))) (.branch (nat_lit 382) (.leaf (nat_lit 1, nat_lit 381, nat_lit 4, nat_lit 0, nat_lit 0, nat_lit 0, [])) (.branch (nat_lit 383) (.leaf (nat_lit 1, nat_lit 382, nat_lit 0, nat_lit 3, nat_lit 0, nat_lit 0, [])) (.leaf (nat_lit 0, nat_lit 383, nat_lit 0, nat_lit 3, nat_lit 0, nat_lit 0, []))))))) (.branch (nat_lit 394) (.branch (nat_lit 389) (.branch (nat_lit 386) (.branch (nat_lit 385) (.leaf (nat_lit 4, nat_lit 384, nat_lit 0, nat_lit 0, nat_lit 0, nat_lit 0, [])) (.leaf (nat_lit 20, nat_lit 385, nat_lit 0, nat_lit 0, nat_lit 0, nat_lit 0, []))) (.branch (nat_lit 387) (.leaf (nat_lit 6, nat_lit 386, nat_lit 0, nat_lit 0, nat_lit 0, nat_lit 0, [])) (.leaf (nat_lit 0, nat_lit 387, nat_lit 1, nat_lit 32, nat_lit 0, nat_lit 0, [])))) (.branch (nat_lit 391) (.branch (nat_lit 390) (.leaf (nat_lit 5, nat_lit 389, nat_lit 7, nat_lit 0, nat_lit 0, nat_lit 0, [])) (.leaf (nat_lit 1, nat_lit 390, nat_lit 4, nat_lit 0, nat_lit 0, nat_lit 0, []))) (.branch (nat_lit 392) (.leaf (nat_lit 1, nat_lit 391, nat_lit 0, nat_lit 3, nat_lit 0, nat_lit 0, [])) (.branch (nat_lit 393) (.leaf (nat_lit 0, nat_lit 392, nat_lit 0, nat_lit 4, nat_lit 0, nat_lit 0, [])) (.leaf (nat_lit 4, nat_lit 393, nat_lit 0, nat_lit 0, nat_lit 0, nat_lit 0, [])))))) (.branch (nat_lit 400) (.branch (nat_lit 396) (.branch (nat_lit 395) (.leaf (nat_lit 20, nat_lit 394, nat_lit 0, nat_lit 0, nat_lit 0, nat_lit 0, [])) (.leaf (nat_lit 6, nat_lit 395, nat_lit 0, nat_lit 0, nat_lit 0, nat_lit 0, []))) (.branch (nat_lit 399) (.leaf (nat_lit 0, nat_lit 396, nat_lit 6, nat_lit 32, nat_lit 4294967295, nat_lit 9107, [])) (.leaf (nat_lit 5, nat_lit 399, nat_lit 3, nat_lit 0, nat_lit 0, nat_lit 0, [])))) (.branch (nat_lit 404) (.branch (nat_lit 401) (.leaf (nat_lit 5, nat_lit 400, nat_lit 4, nat_lit 0, nat_lit 0, nat_lit 0, [])) (.leaf (nat_lit 23, nat_lit 401, nat_lit 2, nat_lit 38, nat_lit 7042, nat_lit 189, []))) (.branch (nat_lit 407) (.leaf (nat_lit 9, nat_lit 404, nat_lit 0, nat_lit 1740, nat_lit 0, nat_lit 0, [])) (.branch (nat_lit 408) (.leaf (nat_lit 0, nat_lit 407, nat_lit 0, nat_lit 0, nat_lit 0, nat_lit 0, [])) (.leaf (nat_lit 24, nat_lit 408, nat_lit 1, nat_lit 0, nat_lit 0, nat_lit 0, [])))))))))) (.branch (nat_lit 488) (.branch (nat_lit 450) (.branch (nat_lit 428) (.branch (nat_lit 417) (.branch (nat_lit 413) (.branch (nat_lit 411) (.branch (nat_lit 410) (.leaf (nat_lit 1, nat_lit 409, nat_lit 4, nat_lit 1, nat_lit 0, nat_lit 0, [])) (.leaf (nat_lit 1, nat_lit 410, nat_lit 4, nat_lit 0, nat_lit 0, nat_lit 0, []))) (.branch (nat_lit 412) (.leaf (nat_lit 1, nat_lit 411, nat_lit 0, nat_lit 3, nat_lit 0, nat_lit 0, [])) (.leaf (nat_lit 0, nat_lit 412, nat_lit 0, nat_lit 1, nat_lit 0, nat_lit 0, [])))) (.branch (nat_lit 415) (.branch (nat_lit 414) (.leaf (nat_lit 4, nat_lit 413, nat_lit 0, nat_lit 0, nat_lit 0, nat_lit 0, [])) (.leaf (nat_lit 20, nat_lit 414, nat_lit 0, nat_lit 0, nat_lit 0, nat_lit 0, []))) (.branch (nat_lit 416) (.leaf (nat_lit 1, nat_lit 415, nat_lit 4, nat_lit 0, nat_lit 0, nat_lit 0, [])) (.leaf (nat_lit 1, nat_lit 416, nat_lit 0, nat_lit 3, nat_lit 0, nat_lit 0, []))))) (.branch (nat_lit 423) (.branch (nat_lit 419) (.branch (nat_lit 418) (.leaf (nat_lit 0, nat_lit 417, nat_lit 0, nat_lit 2, nat_lit 0, nat_lit 0, [])) (.leaf (nat_lit 4, nat_lit 418, nat_lit 0, nat_lit 0, nat_lit 0, nat_lit 0, []))) (.branch (nat_lit 420) (.leaf (nat_lit 20, nat_lit 419, nat_lit 0, nat_lit 0, nat_lit 0, nat_lit 0, [])) (.leaf (nat_lit 23, nat_lit 420, nat_lit 2, nat_lit 39, nat_lit 3078, nat_lit 124, [])))) (.branch (nat_lit 425) (.branch (nat_lit 424) (.leaf (nat_lit 1, nat_lit 423, nat_lit 4, nat_lit 2, nat_lit 0, nat_lit 0, [])) (.leaf (nat_lit 1, nat_lit 424, nat_lit 4, nat_lit 0, nat_lit 0, nat_lit 0, []))) (.branch (nat_lit 426) (.leaf (nat_lit 1, nat_lit 425, nat_lit 0, nat_lit 3, nat_lit 0, nat_lit 0, [])) (.branch (nat_lit 427) (.leaf (nat_lit 0, nat_lit 426, nat_lit 0, nat_lit 1, nat_lit 0, nat_lit 0, [])) (.leaf (nat_lit 4, nat_lit 427, nat_lit 0, nat_lit 0, nat_lit 0, nat_lit 0, []))))))) (.branch (nat_lit 441) (.branch (nat_lit 432) (.branch (nat_lit 430) (.branch (nat_lit 429) (.leaf (nat_lit 20, nat_lit 428, nat_lit 0, nat_lit 0, nat_lit 0, nat_lit 0, [])) (.leaf (nat_lit 1, nat_lit 429, nat_lit 4, nat_lit 0, nat_lit 0, nat_lit 0, []))) (.branch (nat_lit 431) (.leaf (nat_lit 1, nat_lit 430, nat_lit 0, nat_lit 3, nat_lit 0, nat_lit 0, [])) (.leaf (nat_lit 0, nat_lit 431, nat_lit 0, nat_lit 2, nat_lit 0, nat_lit 0, [])))) (.branch (nat_lit 434) (.branch (nat_lit 433) (.leaf (nat_lit 4, nat_lit 432, nat_lit 0, nat_lit 0, nat_lit 0, nat_lit 0, [])) (.leaf (nat_lit 20, nat_lit 433, nat_lit 0, nat_lit 0, nat_lit 0, nat_lit 0, []))) (.branch (nat_lit 437) (.leaf (nat_lit 23, nat_lit 434, nat_lit 2, nat_lit 43, nat_lit 7057, nat_lit 190, [])) (.branch (nat_lit 438) (.leaf (nat_lit 7, nat_lit 437, nat_lit 0, nat_lit 0, nat_lit 0, nat_lit 0, [])) (.leaf (nat_lit 8, nat_lit 438, nat_lit 0, nat_lit 1740, nat_lit 0, nat_lit 0, [])))))) (.branch (nat_lit 445) (.branch (nat_lit 443) (.branch (nat_lit 442) (.leaf (nat_lit 0, nat_lit 441, nat_lit 0, nat_lit 0, nat_lit 0, nat_lit 0, [])) (.leaf (nat_lit 24, nat_lit 442, nat_lit 1, nat_lit 0, nat_lit 0, nat_lit 0, []))) (.branch (nat_lit 444) (.leaf (nat_lit 1, nat_lit 443, nat_lit 4, nat_lit 1, nat_lit 0, nat_lit 0, [])) (.leaf (nat_lit 1, nat_lit 444, nat_lit 4, nat_lit 0, nat_lit 0, nat_lit 0, [])))) (.branch (nat_lit 447) (.branch (nat_lit 446) (.leaf (nat_lit 1, nat_lit 445, nat_lit 0, nat_lit 3, nat_lit 0, nat_lit 0, [])) (.leaf (nat_lit 0, nat_lit 446, nat_lit 0, nat_lit 1, nat_lit 0, nat_lit 0, []))) (.branch (nat_lit 448) (.leaf (nat_lit 4, nat_lit 447, nat_lit 0, nat_lit 0, nat_lit 0, nat_lit 0, [])) (.branch (nat_lit 449) (.leaf (nat_lit 20, nat_lit 448, nat_lit 0, nat_lit 0, nat_lit 0, nat_lit 0, [])) (.leaf (nat_lit 1, nat_lit 449, nat_lit 4, nat_lit 0, nat_lit 0, nat_lit 0, [])))))))) (.branch (nat_lit 468) (.branch (nat_lit 459) (.branch (nat_lit 454) (.branch (nat_lit 452) (.branch (nat_lit 451) (.leaf (nat_lit 1, nat_lit 450, nat_lit 0, nat_lit 3, nat_lit 0, nat_lit 0, [])) (.leaf (nat_lit 0, nat_lit 451, nat_lit 0, nat_lit 2, nat_lit 0, nat_lit 0, []))) (.branch (nat_lit 453) (.leaf (nat_lit 4, nat_lit 452, nat_lit 0, nat_lit 0, nat_lit 0, nat_lit 0, [])) (.leaf (nat_lit 20, nat_lit 453, nat_lit 0, nat_lit 0, nat_lit 0, nat_lit 0, [])))) (.branch (nat_lit 456) (.branch (nat_lit 455) (.leaf (nat_lit 1, nat_lit 454, nat_lit 4, nat_lit 0, nat_lit 0, nat_lit 0, [])) (.leaf (nat_lit 1, nat_lit 455, nat_lit 0, nat_lit 3, nat_lit 0, nat_lit 0, []))) (.branch (nat_lit 457) (.leaf (nat_lit 0, nat_lit 456, nat_lit 0, nat_lit 3, nat_lit 0, nat_lit 0, [])) (.branch (nat_lit 458) (.leaf (nat_lit 4, nat_lit 457, nat_lit 0, nat_lit 0, nat_lit 0, nat_lit 0, [])) (.leaf (nat_lit 20, nat_lit 458, nat_lit 0, nat_lit 0, nat_lit 0, nat_lit 0, [])))))) (.branch (nat_lit 463) (.branch (nat_lit 461) (.branch (nat_lit 460) (.leaf (nat_lit 1, nat_lit 459, nat_lit 4, nat_lit 0, nat_lit 0, nat_lit 0, [])) (.leaf (nat_lit 1, nat_lit 460, nat_lit 0, nat_lit 3, nat_lit 0, nat_lit 0, []))) (.branch (nat_lit 462) (.leaf (nat_lit 0, nat_lit 461, nat_lit 0, nat_lit 4, nat_lit 0, nat_lit 0, [])) (.leaf (nat_lit 4, nat_lit 462, nat_lit 0, nat_lit 0, nat_lit 0, nat_lit 0, [])))) (.branch (nat_lit 465) (.branch (nat_lit 464) (.leaf (nat_lit 20, nat_lit 463, nat_lit 0, nat_lit 0, nat_lit 0, nat_lit 0, [])) (.leaf (nat_lit 1, nat_lit 464, nat_lit 4, nat_lit 0, nat_lit 0, nat_lit 0, []))) (.branch (nat_lit 466) (.leaf (nat_lit 1, nat_lit 465, nat_lit 0, nat_lit 3, nat_lit 0, nat_lit 0, [])) (.branch (nat_lit 467) (.leaf (nat_lit 0, nat_lit 466, nat_lit 0, nat_lit 5, nat_lit 0, nat_lit 0, [])) (.leaf (nat_lit 4, nat_lit 467, nat_lit 0, nat_lit 0, nat_lit 0, nat_lit 0, []))))))) (.branch (nat_lit 479) (.branch (nat_lit 474) (.branch (nat_lit 472) (.branch (nat_lit 469) (.leaf (nat_lit 20, nat_lit 468, nat_lit 0, nat_lit 0, nat_lit 0, nat_lit 0, [])) (.leaf (nat_lit 23, nat_lit 469, nat_lit 2, nat_lit 44, nat_lit 3086, nat_lit 125, []))) (.branch (nat_lit 473) (.leaf (nat_lit 1, nat_lit 472, nat_lit 4, nat_lit 2, nat_lit 0, nat_lit 0, [])) (.leaf (nat_lit 1, nat_lit 473, nat_lit 4, nat_lit 0, nat_lit 0, nat_lit 0, [])))) (.branch (nat_lit 476) (.branch (nat_lit 475) (.leaf (nat_lit 1, nat_lit 474, nat_lit 0, nat_lit 3, nat_lit 0, nat_lit 0, [])) (.leaf (nat_lit 0, nat_lit 475, nat_lit 0, nat_lit 1, nat_lit 0, nat_lit 0, []))) (.branch (nat_lit 477) (.leaf (nat_lit 4, nat_lit 476, nat_lit 0, nat_lit 0, nat_lit 0, nat_lit 0, [])) (.branch (nat_lit 478) (.leaf (nat_lit 20, nat_lit 477, nat_lit 0, nat_lit 0, nat_lit 0, nat_lit 0, [])) (.leaf (nat_lit 1, nat_lit 478, nat_lit 4, nat_lit 0, nat_lit 0, nat_lit 0, [])))))) (.branch (nat_lit 483) (.branch (nat_lit 481) (.branch (nat_lit 480) (.leaf (nat_lit 1, nat_lit 479, nat_lit 0, nat_lit 3, nat_lit 0, nat_lit 0, [])) (.leaf (nat_lit 0, nat_lit 480, nat_lit 0, nat_lit 2, nat_lit 0, nat_lit 0, []))) (.branch (nat_lit 482) (.leaf (nat_lit 4, nat_lit 481, nat_lit 0, nat_lit 0, nat_lit 0, nat_lit 0, [])) (.leaf (nat_lit 20, nat_lit 482, nat_lit 0, nat_lit 0, nat_lit 0, nat_lit 0, [])))) (.branch (nat_lit 485) (.branch (nat_lit 484) (.leaf (nat_lit 1, nat_lit 483, nat_lit 4, nat_lit 0, nat_lit 0, nat_lit 0, [])) (.leaf (nat_lit 1, nat_lit 484, nat_lit 0, nat_lit 3, nat_lit 0, nat_lit 0, []))) (.branch (nat_lit 486) (.leaf (nat_lit 0, nat_lit 485, nat_lit 0, nat_lit 3, nat_lit 0, nat_lit 0, [])) (.branch (nat_lit 487) (.leaf (nat_lit 4, nat_lit 486, nat_lit 0, nat_lit 0, nat_lit 0, nat_lit 0, [])) (.leaf (nat_lit 20, nat_lit 487, nat_lit 0, nat_lit 0, nat_lit 0, nat_lit 0, []))))))))) (.branch (nat_lit 528) (.branch (nat_lit 510) (.branch (nat_lit 497) (.branch (nat_lit 492) (.branch (nat_lit 490) (.branch (nat_lit 489) (.leaf (nat_lit 1, nat_lit 488, nat_lit 4, nat_lit 0, nat_lit 0, nat_lit 0, [])) (.leaf (nat_lit 1, nat_lit 489, nat_lit 0, nat_lit 3, nat_lit 0, nat_lit 0, []))) (.branch (nat_lit 491) (.leaf (nat_lit 0, nat_lit 490, nat_lit 0, nat_lit 4, nat_lit 0, nat_lit 0, [])) (.leaf (nat_lit 4, nat_lit 491, nat_lit 0, nat_lit 0, nat_lit 0, nat_lit 0, [])))) (.branch (nat_lit 494) (.branch (nat_lit 493) (.leaf (nat_lit 20, nat_lit 492, nat_lit 0, nat_lit 0, nat_lit 0, nat_lit 0, [])) (.leaf (nat_lit 1, nat_lit 493, nat_lit 4, nat_lit 0, nat_lit 0, nat_lit 0, []))) (.branch (nat_lit 495) (.leaf (nat_lit 1, nat_lit 494, nat_lit 0, nat_lit 3, nat_lit 0, nat_lit 0, [])) (.branch (nat_lit 496) (.leaf (nat_lit 0, nat_lit 495, nat_lit 0, nat_lit 5, nat_lit 0, nat_lit 0, [])) (.leaf (nat_lit 4, nat_lit 496, nat_lit 0, nat_lit 0, nat_lit 0, nat_lit 0, [])))))) (.branch (nat_lit 505) (.branch (nat_lit 501) (.branch (nat_lit 498) (.leaf (nat_lit 20, nat_lit 497, nat_lit 0, nat_lit 0, nat_lit 0, nat_lit 0, [])) (.leaf (nat_lit 23, nat_lit 498, nat_lit 2, nat_lit 48, nat_lit 7062, nat_lit 191, []))) (.branch (nat_lit 504) (.leaf (nat_lit 9, nat_lit 501, nat_lit 0, nat_lit 1740, nat_lit 0, nat_lit 0, [])) (.leaf (nat_lit 0, nat_lit 504, nat_lit 0, nat_lit 0, nat_lit 0, nat_lit 0, [])))) (.branch (nat_lit 507) (.branch (nat_lit 506) (.leaf (nat_lit 24, nat_lit 505, nat_lit 1, nat_lit 0, nat_lit 0, nat_lit 0, [])) (.leaf (nat_lit 1, nat_lit 506, nat_lit 4, nat_lit 1, nat_lit 0, nat_lit 0, []))) (.branch (nat_lit 508) (.leaf (nat_lit 1, nat_lit 507, nat_lit 4, nat_lit 0, nat_lit 0, nat_lit 0, [])) (.branch (nat_lit 509) (.leaf (nat_lit 1, nat_lit 508, nat_lit 0, nat_lit 3, nat_lit 0, nat_lit 0, [])) (.leaf (nat_lit 0, nat_lit 509, nat_lit 0, nat_lit 1, nat_lit 0, nat_lit 0, []))))))) (.branch (nat_lit 519) (.branch (nat_lit 514) (.branch (nat_lit 512) (.branch (nat_lit 511) (.leaf (nat_lit 4, nat_lit 510, nat_lit 0, nat_lit 0, nat_lit 0, nat_lit 0, [])) (.leaf (nat_lit 20, nat_lit 511, nat_lit 0, nat_lit 0, nat_lit 0, nat_lit 0, []))) (.branch (nat_lit 513) (.leaf (nat_lit 1, nat_lit 512, nat_lit 4, nat_lit 0, nat_lit 0, nat_lit 0, [])) (.leaf (nat_lit 1, nat_lit 513, nat_lit 0, nat_lit 3, nat_lit 0, nat_lit 0, [])))) (.branch (nat_lit 516) (.branch (nat_lit 515) (.leaf (nat_lit 0, nat_lit 514, nat_lit 0, nat_lit 2, nat_lit 0, nat_lit 0, [])) (.leaf (nat_lit 4, nat_lit 515, nat_lit 0, nat_lit 0, nat_lit 0, nat_lit 0, []))) (.branch (nat_lit 517) (.leaf (nat_lit 20, nat_lit 516, nat_lit 0, nat_lit 0, nat_lit 0, nat_lit 0, [])) (.branch (nat_lit 518) (.leaf (nat_lit 1, nat_lit 517, nat_lit 4, nat_lit 0, nat_lit 0, nat_lit 0, [])) (.leaf (nat_lit 1, nat_lit 518, nat_lit 0, nat_lit 3, nat_lit 0, nat_lit 0, [])))))) (.branch (nat_lit 523) (.branch (nat_lit 521) (.branch (nat_lit 520) (.leaf (nat_lit 0, nat_lit 519, nat_lit 0, nat_lit 3, nat_lit 0, nat_lit 0, [])) (.leaf (nat_lit 4, nat_lit 520, nat_lit 0, nat_lit 0, nat_lit 0, nat_lit 0, []))) (.branch (nat_lit 522) (.leaf (nat_lit 20, nat_lit 521, nat_lit 0, nat_lit 0, nat_lit 0, nat_lit 0, [])) (.leaf (nat_lit 1, nat_lit 522, nat_lit 4, nat_lit 0, nat_lit 0, nat_lit 0, [])))) (.branch (nat_lit 525) (.branch (nat_lit 524) (.leaf (nat_lit 1, nat_lit 523, nat_lit 0, nat_lit 3, nat_lit 0, nat_lit 0, [])) (.leaf (nat_lit 0, nat_lit 524, nat_lit 0, nat_lit 4, nat_lit 0, nat_lit 0, []))) (.branch (nat_lit 526) (.leaf (nat_lit 4, nat_lit 525, nat_lit 0, nat_lit 0, nat_lit 0, nat_lit 0, [])) (.branch (nat_lit 527) (.leaf (nat_lit 20, nat_lit 526, nat_lit 0, nat_lit 0, nat_lit 0, nat_lit 0, [])) (.leaf (nat_lit 1, nat_lit 527, nat_lit 4, nat_lit 0, nat_lit 0, nat_lit 0, [])))))))) (.branch (nat_lit 548) (.branch (nat_lit 539) (.branch (nat_lit 532) (.branch (nat_lit 530) (.branch (nat_lit 529) (.leaf (nat_lit 1, nat_lit 528, nat_lit 0, nat_lit 3, nat_lit 0, nat_lit 0, [])) (.leaf (nat_lit 0, nat_lit 529, nat_lit 0, nat_lit 5, nat_lit 0, nat_lit 0, []))) (.branch (nat_lit 531) (.leaf (nat_lit 4, nat_lit 530, nat_lit 0, nat_lit 0, nat_lit 0, nat_lit 0, [])) (.leaf (nat_lit 20, nat_lit 531, nat_lit 0, nat_lit 0, nat_lit 0, nat_lit 0, [])))) (.branch (nat_lit 536) (.branch (nat_lit 535) (.leaf (nat_lit 23, nat_lit 532, nat_lit 2, nat_lit 49, nat_lit 3097, nat_lit 126, [])) (.leaf (nat_lit 1, nat_lit 535, nat_lit 4, nat_lit 2, nat_lit 0, nat_lit 0, []))) (.branch (nat_lit 537) (.leaf (nat_lit 1, nat_lit 536, nat_lit 4, nat_lit 0, nat_lit 0, nat_lit 0, [])) (.branch (nat_lit 538) (.leaf (nat_lit 1, nat_lit 537, nat_lit 0, nat_lit 3, nat_lit 0, nat_lit 0, [])) (.leaf (nat_lit 0, nat_lit 538, nat_lit 0, nat_lit 1, nat_lit 0, nat_lit 0, [])))))) (.branch (nat_lit 543) (.branch (nat_lit 541) (.branch (nat_lit 540) (.leaf (nat_lit 4, nat_lit 539, nat_lit 0, nat_lit 0, nat_lit 0, nat_lit 0, [])) (.leaf (nat_lit 20, nat_lit 540, nat_lit 0, nat_lit 0, nat_lit 0, nat_lit 0, []))) (.branch (nat_lit 542) (.leaf (nat_lit 1, nat_lit 541, nat_lit 4, nat_lit 0, nat_lit 0, nat_lit 0, [])) (.leaf (nat_lit 1, nat_lit 542, nat_lit 0, nat_lit 3, nat_lit 0, nat_lit 0, [])))) (.branch (nat_lit 545) (.branch (nat_lit 544) (.leaf (nat_lit 0, nat_lit 543, nat_lit 0, nat_lit 2, nat_lit 0, nat_lit 0, [])) (.leaf (nat_lit 4, nat_lit 544, nat_lit 0, nat_lit 0, nat_lit 0, nat_lit 0, []))) (.branch (nat_lit 546) (.leaf (nat_lit 20, nat_lit 545, nat_lit 0, nat_lit 0, nat_lit 0, nat_lit 0, [])) (.branch (nat_lit 547) (.leaf (nat_lit 1, nat_lit 546, nat_lit 4, nat_lit 0, nat_lit 0, nat_lit 0, [])) (.leaf (nat_lit 1, nat_lit 547, nat_lit 0, nat_lit 3, nat_lit 0, nat_lit 0, []))))))) (.branch (nat_lit 557) (.branch (nat_lit 552) (.branch (nat_lit 550) (.branch (nat_lit 549) (.leaf (nat_lit 0, nat_lit 548, nat_lit 0, nat_lit 3, nat_lit 0, nat_lit 0, [])) (.leaf (nat_lit 4, nat_lit 549, nat_lit 0, nat_lit 0, nat_lit 0, nat_lit 0, []))) (.branch (nat_lit 551) (.leaf (nat_lit 20, nat_lit 550, nat_lit 0, nat_lit 0, nat_lit 0, nat_lit 0, [])) (.leaf (nat_lit 1, nat_lit 551, nat_lit 4, nat_lit 0, nat_lit 0, nat_lit 0, [])))) (.branch (nat_lit 554) (.branch (nat_lit 553) (.leaf (nat_lit 1, nat_lit 552, nat_lit 0, nat_lit 3, nat_lit 0, nat_lit 0, [])) (.leaf (nat_lit 0, nat_lit 553, nat_lit 0, nat_lit 4, nat_lit 0, nat_lit 0, []))) (.branch (nat_lit 555) (.leaf (nat_lit 4, nat_lit 554, nat_lit 0, nat_lit 0, nat_lit 0, nat_lit 0, [])) (.branch (nat_lit 556) (.leaf (nat_lit 20, nat_lit 555, nat_lit 0, nat_lit 0, nat_lit 0, nat_lit 0, [])) (.leaf (nat_lit 1, nat_lit 556, nat_lit 4, nat_lit 0, nat_lit 0, nat_lit 0, [])))))) (.branch (nat_lit 561) (.branch (nat_lit 559) (.branch (nat_lit 558) (.leaf (nat_lit 1, nat_lit 557, nat_lit 0, nat_lit 3, nat_lit 0, nat_lit 0, [])) (.leaf (nat_lit 0, nat_lit 558, nat_lit 0, nat_lit 5, nat_lit 0, nat_lit 0, []))) (.branch (nat_lit 560) (.leaf (nat_lit 4, nat_lit 559, nat_lit 0, nat_lit 0, nat_lit 0, nat_lit 0, [])) (.leaf (nat_lit 20, nat_lit 560, nat_lit 0, nat_lit 0, nat_lit 0, nat_lit 0, [])))) (.branch (nat_lit 567) (.branch (nat_lit 564) (.leaf (nat_lit 23, nat_lit 561, nat_lit 2, nat_lit 53, nat_lit 7066, nat_lit 221, [])) (.leaf (nat_lit 9, nat_lit 564, nat_lit 0, nat_lit 1740, nat_lit 0, nat_lit 0, []))) (.branch (nat_lit 568) (.leaf (nat_lit 0, nat_lit 567, nat_lit 0, nat_lit 0, nat_lit 0, nat_lit 0, [])) (.branch (nat_lit 569) (.leaf (nat_lit 24, nat_lit 568, nat_lit 1, nat_lit 0, nat_lit 0, nat_lit 0, [])) (.leaf (nat_lit 1, nat_lit 569, nat_lit 4, nat_lit 1, nat_lit 0, nat_lit 0, []))))))))))) (.branch (nat_lit 751) (.branch (nat_lit 665) (.branch (nat_lit 617) (.branch (nat_lit 593) (.branch (nat_lit 580) (.branch (nat_lit 574) (.branch (nat_lit 572) (.branch (nat_lit 571) (.leaf (nat_lit 1, nat_lit 570, nat_lit 4, nat_lit 0, nat_lit 0, nat_lit 0, [])) (.leaf (nat_lit 1, nat_lit 571, nat_lit 0, nat_lit 3, nat_lit 0, nat_lit 0, []))) (.branch (nat_lit 573) (.leaf (nat_lit 0, nat_lit 572, nat_lit 0, nat_lit 1, nat_lit 0, nat_lit 0, [])) (.leaf (nat_lit 4, nat_lit 573, nat_lit 0, nat_lit 0, nat_lit 0, nat_lit 0, [])))) (.branch (nat_lit 578) (.branch (nat_lit 575) (.leaf (nat_lit 20, nat_lit 574, nat_lit 0, nat_lit 0, nat_lit 0, nat_lit 0, [])) (.leaf (nat_lit 23, nat_lit 575, nat_lit 2, nat_lit 54, nat_lit 3105, nat_lit 127, []))) (.branch (nat_lit 579) (.leaf (nat_lit 1, nat_lit 578, nat_lit 4, nat_lit 2, nat_lit 0, nat_lit 0, [])) (.leaf (nat_lit 1, nat_lit 579, nat_lit 4, nat_lit 0, nat_lit 0, nat_lit 0, []))))) (.branch (nat_lit 584) (.branch (nat_lit 582) (.branch (nat_lit 581) (.leaf (nat_lit 1, nat_lit 580, nat_lit 0, nat_lit 3, nat_lit 0, nat_lit 0, [])) (.leaf (nat_lit 0, nat_lit 581, nat_lit 0, nat_lit 1, nat_lit 0, nat_lit 0, []))) (.branch (nat_lit 583) (.leaf (nat_lit 4, nat_lit 582, nat_lit 0, nat_lit 0, nat_lit 0, nat_lit 0, [])) (.leaf (nat_lit 20, nat_lit 583, nat_lit 0, nat_lit 0, nat_lit 0, nat_lit 0, [])))) (.branch (nat_lit 590) (.branch (nat_lit 587) (.leaf (nat_lit 23, nat_lit 584, nat_lit 2, nat_lit 58, nat_lit 7078, nat_lit 231, [])) (.leaf (nat_lit 9, nat_lit 587, nat_lit 0, nat_lit 1740, nat_lit 0, nat_lit 0, []))) (.branch (nat_lit 591) (.leaf (nat_lit 0, nat_lit 590, nat_lit 0, nat_lit 0, nat_lit 0, nat_lit 0, [])) (.branch (nat_lit 592) (.leaf (nat_lit 24, nat_lit 591, nat_lit 1, nat_lit 0, nat_lit 0, nat_lit 0, [])) (.leaf (nat_lit 1, nat_lit 592, nat_lit 4, nat_lit 1, nat_lit 0, nat_lit 0, []))))))) (.branch (nat_lit 604) (.branch (nat_lit 597) (.branch (nat_lit 595) (.branch (nat_lit 594) (.leaf (nat_lit 1, nat_lit 593, nat_lit 4, nat_lit 0, nat_lit 0, nat_lit 0, [])) (.leaf (nat_lit 1, nat_lit 594, nat_lit 0, nat_lit 3, nat_lit 0, nat_lit 0, []))) (.branch (nat_lit 596) (.leaf (nat_lit 0, nat_lit 595, nat_lit 0, nat_lit 1, nat_lit 0, nat_lit 0, [])) (.leaf (nat_lit 4, nat_lit 596, nat_lit 0, nat_lit 0, nat_lit 0, nat_lit 0, [])))) (.branch (nat_lit 601) (.branch (nat_lit 598) (.leaf (nat_lit 20, nat_lit 597, nat_lit 0, nat_lit 0, nat_lit 0, nat_lit 0, [])) (.leaf (nat_lit 23, nat_lit 598, nat_lit 2, nat_lit 59, nat_lit 4074, nat_lit 128, []))) (.branch (nat_lit 602) (.leaf (nat_lit 1, nat_lit 601, nat_lit 4, nat_lit 2, nat_lit 0, nat_lit 0, [])) (.branch (nat_lit 603) (.leaf (nat_lit 1, nat_lit 602, nat_lit 4, nat_lit 0, nat_lit 0, nat_lit 0, [])) (.leaf (nat_lit 1, nat_lit 603, nat_lit 0, nat_lit 3, nat_lit 0, nat_lit 0, [])))))) (.branch (nat_lit 610) (.branch (nat_lit 606) (.branch (nat_lit 605) (.leaf (nat_lit 0, nat_lit 604, nat_lit 0, nat_lit 1, nat_lit 0, nat_lit 0, [])) (.leaf (nat_lit 4, nat_lit 605, nat_lit 0, nat_lit 0, nat_lit 0, nat_lit 0, []))) (.branch (nat_lit 607) (.leaf (nat_lit 20, nat_lit 606, nat_lit 0, nat_lit 0, nat_lit 0, nat_lit 0, [])) (.leaf (nat_lit 23, nat_lit 607, nat_lit 2, nat_lit 62, nat_lit 7220, nat_lit 234, [])))) (.branch (nat_lit 614) (.branch (nat_lit 613) (.leaf (nat_lit 9, nat_lit 610, nat_lit 0, nat_lit 1740, nat_lit 0, nat_lit 0, [])) (.leaf (nat_lit 0, nat_lit 613, nat_lit 0, nat_lit 0, nat_lit 0, nat_lit 0, []))) (.branch (nat_lit 615) (.leaf (nat_lit 24, nat_lit 614, nat_lit 1, nat_lit 0, nat_lit 0, nat_lit 0, [])) (.branch (nat_lit 616) (.leaf (nat_lit 1, nat_lit 615, nat_lit 4, nat_lit 1, nat_lit 0, nat_lit 0, [])) (.leaf (nat_lit 1, nat_lit 616, nat_lit 4, nat_lit 0, nat_lit 0, nat_lit 0, [])))))))) (.branch (nat_lit 641) (.branch (nat_lit 628) (.branch (nat_lit 621) (.branch (nat_lit 619) (.branch (nat_lit 618) (.leaf (nat_lit 1, nat_lit 617, nat_lit 0, nat_lit 3, nat_lit 0, nat_lit 0, [])) (.leaf (nat_lit 0, nat_lit 618, nat_lit 0, nat_lit 1, nat_lit 0, nat_lit 0, []))) (.branch (nat_lit 620) (.leaf (nat_lit 4, nat_lit 619, nat_lit 0, nat_lit 0, nat_lit 0, nat_lit 0, [])) (.leaf (nat_lit 20, nat_lit 620, nat_lit 0, nat_lit 0, nat_lit 0, nat_lit 0, [])))) (.branch (nat_lit 625) (.branch (nat_lit 624) (.leaf (nat_lit 23, nat_lit 621, nat_lit 2, nat_lit 63, nat_lit 4144, nat_lit 129, [])) (.leaf (nat_lit 1, nat_lit 624, nat_lit 4, nat_lit 2, nat_lit 0, nat_lit 0, []))) (.branch (nat_lit 626) (.leaf (nat_lit 1, nat_lit 625, nat_lit 4, nat_lit 0, nat_lit 0, nat_lit 0, [])) (.branch (nat_lit 627) (.leaf (nat_lit 1, nat_lit 626, nat_lit 0, nat_lit 3, nat_lit 0, nat_lit 0, [])) (.leaf (nat_lit 0, nat_lit 627, nat_lit 0, nat_lit 1, nat_lit 0, nat_lit 0, [])))))) (.branch (nat_lit 636) (.branch (nat_lit 630) (.branch (nat_lit 629) (.leaf (nat_lit 4, nat_lit 628, nat_lit 0, nat_lit 0, nat_lit 0, nat_lit 0, [])) (.leaf (nat_lit 20, nat_lit 629, nat_lit 0, nat_lit 0, nat_lit 0, nat_lit 0, []))) (.branch (nat_lit 633) (.leaf (nat_lit 23, nat_lit 630, nat_lit 2, nat_lit 66, nat_lit 7074, nat_lit 225, [])) (.leaf (nat_lit 9, nat_lit 633, nat_lit 0, nat_lit 1740, nat_lit 0, nat_lit 0, [])))) (.branch (nat_lit 638) (.branch (nat_lit 637) (.leaf (nat_lit 0, nat_lit 636, nat_lit 0, nat_lit 0, nat_lit 0, nat_lit 0, [])) (.leaf (nat_lit 24, nat_lit 637, nat_lit 1, nat_lit 0, nat_lit 0, nat_lit 0, []))) (.branch (nat_lit 639) (.leaf (nat_lit 1, nat_lit 638, nat_lit 4, nat_lit 1, nat_lit 0, nat_lit 0, [])) (.branch (nat_lit 640) (.leaf (nat_lit 1, nat_lit 639, nat_lit 4, nat_lit 0, nat_lit 0, nat_lit 0, [])) (.leaf (nat_lit 1, nat_lit 640, nat_lit 0, nat_lit 3, nat_lit 0, nat_lit 0, []))))))) (.branch (nat_lit 652) (.branch (nat_lit 647) (.branch (nat_lit 643) (.branch (nat_lit 642) (.leaf (nat_lit 0, nat_lit 641, nat_lit 0, nat_lit 1, nat_lit 0, nat_lit 0, [])) (.leaf (nat_lit 4, nat_lit 642, nat_lit 0, nat_lit 0, nat_lit 0, nat_lit 0, []))) (.branch (nat_lit 644) (.leaf (nat_lit 20, nat_lit 643, nat_lit 0, nat_lit 0, nat_lit 0, nat_lit 0, [])) (.leaf (nat_lit 23, nat_lit 644, nat_lit 2, nat_lit 67, nat_lit 4148, nat_lit 130, [])))) (.branch (nat_lit 649) (.branch (nat_lit 648) (.leaf (nat_lit 1, nat_lit 647, nat_lit 4, nat_lit 2, nat_lit 0, nat_lit 0, [])) (.leaf (nat_lit 1, nat_lit 648, nat_lit 4, nat_lit 0, nat_lit 0, nat_lit 0, []))) (.branch (nat_lit 650) (.leaf (nat_lit 1, nat_lit 649, nat_lit 0, nat_lit 3, nat_lit 0, nat_lit 0, [])) (.branch (nat_lit 651) (.leaf (nat_lit 0, nat_lit 650, nat_lit 0, nat_lit 1, nat_lit 0, nat_lit 0, [])) (.leaf (nat_lit 4, nat_lit 651, nat_lit 0, nat_lit 0, nat_lit 0, nat_lit 0, [])))))) (.branch (nat_lit 660) (.branch (nat_lit 656) (.branch (nat_lit 653) (.leaf (nat_lit 20, nat_lit 652, nat_lit 0, nat_lit 0, nat_lit 0, nat_lit 0, [])) (.leaf (nat_lit 23, nat_lit 653, nat_lit 2, nat_lit 70, nat_lit 7232, nat_lit 248, []))) (.branch (nat_lit 659) (.leaf (nat_lit 9, nat_lit 656, nat_lit 0, nat_lit 1740, nat_lit 0, nat_lit 0, [])) (.leaf (nat_lit 0, nat_lit 659, nat_lit 0, nat_lit 0, nat_lit 0, nat_lit 0, [])))) (.branch (nat_lit 662) (.branch (nat_lit 661) (.leaf (nat_lit 24, nat_lit 660, nat_lit 1, nat_lit 0, nat_lit 0, nat_lit 0, [])) (.leaf (nat_lit 1, nat_lit 661, nat_lit 4, nat_lit 1, nat_lit 0, nat_lit 0, []))) (.branch (nat_lit 663) (.leaf (nat_lit 1, nat_lit 662, nat_lit 4, nat_lit 0, nat_lit 0, nat_lit 0, [])) (.branch (nat_lit 664) (.leaf (nat_lit 1, nat_lit 663, nat_lit 0, nat_lit 3, nat_lit 0, nat_lit 0, [])) (.leaf (nat_lit 0, nat_lit 664, nat_lit 0, nat_lit 1, nat_lit 0, nat_lit 0, []))))))))) (.branch (nat_lit 709) (.branch (nat_lit 685) (.branch (nat_lit 676) (.branch (nat_lit 669) (.branch (nat_lit 667) (.branch (nat_lit 666) (.leaf (nat_lit 4, nat_lit 665, nat_lit 0, nat_lit 0, nat_lit 0, nat_lit 0, [])) (.leaf (nat_lit 20, nat_lit 666, nat_lit 0, nat_lit 0, nat_lit 0, nat_lit 0, []))) (.branch (nat_lit 668) (.leaf (nat_lit 1, nat_lit 667, nat_lit 4, nat_lit 0, nat_lit 0, nat_lit 0, [])) (.leaf (nat_lit 1, nat_lit 668, nat_lit 0, nat_lit 3, nat_lit 0, nat_lit 0, [])))) (.branch (nat_lit 671) (.branch (nat_lit 670) (.leaf (nat_lit 0, nat_lit 669, nat_lit 0, nat_lit 2, nat_lit 0, nat_lit 0, [])) (.leaf (nat_lit 4, nat_lit 670, nat_lit 0, nat_lit 0, nat_lit 0, nat_lit 0, []))) (.branch (nat_lit 672) (.leaf (nat_lit 20, nat_lit 671, nat_lit 0, nat_lit 0, nat_lit 0, nat_lit 0, [])) (.branch (nat_lit 675) (.leaf (nat_lit 23, nat_lit 672, nat_lit 2, nat_lit 71, nat_lit 4156, nat_lit 131, [])) (.leaf (nat_lit 1, nat_lit 675, nat_lit 4, nat_lit 2, nat_lit 0, nat_lit 0, [])))))) (.branch (nat_lit 680) (.branch (nat_lit 678) (.branch (nat_lit 677) (.leaf (nat_lit 1, nat_lit 676, nat_lit 4, nat_lit 0, nat_lit 0, nat_lit 0, [])) (.leaf (nat_lit 1, nat_lit 677, nat_lit 0, nat_lit 3, nat_lit 0, nat_lit 0, []))) (.branch (nat_lit 679) (.leaf (nat_lit 0, nat_lit 678, nat_lit 0, nat_lit 1, nat_lit 0, nat_lit 0, [])) (.leaf (nat_lit 4, nat_lit 679, nat_lit 0, nat_lit 0, nat_lit 0, nat_lit 0, [])))) (.branch (nat_lit 682) (.branch (nat_lit 681) (.leaf (nat_lit 20, nat_lit 680, nat_lit 0, nat_lit 0, nat_lit 0, nat_lit 0, [])) (.leaf (nat_lit 1, nat_lit 681, nat_lit 4, nat_lit 0, nat_lit 0, nat_lit 0, []))) (.branch (nat_lit 683) (.leaf (nat_lit 1, nat_lit 682, nat_lit 0, nat_lit 3, nat_lit 0, nat_lit 0, [])) (.branch (nat_lit 684) (.leaf (nat_lit 0, nat_lit 683, nat_lit 0, nat_lit 2, nat_lit 0, nat_lit 0, [])) (.leaf (nat_lit 4, nat_lit 684, nat_lit 0, nat_lit 0, nat_lit 0, nat_lit 0, []))))))) (.branch (nat_lit 698) (.branch (nat_lit 693) (.branch (nat_lit 689) (.branch (nat_lit 686) (.leaf (nat_lit 20, nat_lit 685, nat_lit 0, nat_lit 0, nat_lit 0, nat_lit 0, [])) (.leaf (nat_lit 23, nat_lit 686, nat_lit 2, nat_lit 75, nat_lit 8008, nat_lit 250, []))) (.branch (nat_lit 692) (.leaf (nat_lit 9, nat_lit 689, nat_lit 0, nat_lit 1740, nat_lit 0, nat_lit 0, [])) (.leaf (nat_lit 0, nat_lit 692, nat_lit 0, nat_lit 0, nat_lit 0, nat_lit 0, [])))) (.branch (nat_lit 695) (.branch (nat_lit 694) (.leaf (nat_lit 24, nat_lit 693, nat_lit 1, nat_lit 0, nat_lit 0, nat_lit 0, [])) (.leaf (nat_lit 1, nat_lit 694, nat_lit 4, nat_lit 1, nat_lit 0, nat_lit 0, []))) (.branch (nat_lit 696) (.leaf (nat_lit 1, nat_lit 695, nat_lit 4, nat_lit 0, nat_lit 0, nat_lit 0, [])) (.branch (nat_lit 697) (.leaf (nat_lit 1, nat_lit 696, nat_lit 0, nat_lit 3, nat_lit 0, nat_lit 0, [])) (.leaf (nat_lit 0, nat_lit 697, nat_lit 0, nat_lit 1, nat_lit 0, nat_lit 0, [])))))) (.branch (nat_lit 702) (.branch (nat_lit 700) (.branch (nat_lit 699) (.leaf (nat_lit 4, nat_lit 698, nat_lit 0, nat_lit 0, nat_lit 0, nat_lit 0, [])) (.leaf (nat_lit 20, nat_lit 699, nat_lit 0, nat_lit 0, nat_lit 0, nat_lit 0, []))) (.branch (nat_lit 701) (.leaf (nat_lit 1, nat_lit 700, nat_lit 4, nat_lit 0, nat_lit 0, nat_lit 0, [])) (.leaf (nat_lit 1, nat_lit 701, nat_lit 0, nat_lit 3, nat_lit 0, nat_lit 0, [])))) (.branch (nat_lit 704) (.branch (nat_lit 703) (.leaf (nat_lit 0, nat_lit 702, nat_lit 0, nat_lit 2, nat_lit 0, nat_lit 0, [])) (.leaf (nat_lit 4, nat_lit 703, nat_lit 0, nat_lit 0, nat_lit 0, nat_lit 0, []))) (.branch (nat_lit 705) (.leaf (nat_lit 20, nat_lit 704, nat_lit 0, nat_lit 0, nat_lit 0, nat_lit 0, [])) (.branch (nat_lit 708) (.leaf (nat_lit 23, nat_lit 705, nat_lit 2, nat_lit 76, nat_lit 4176, nat_lit 132, [])) (.leaf (nat_lit 1, nat_lit 708, nat_lit 4, nat_lit 2, nat_lit 0, nat_lit 0, [])))))))) (.branch (nat_lit 731) (.branch (nat_lit 718) (.branch (nat_lit 713) (.branch (nat_lit 711) (.branch (nat_lit 710) (.leaf (nat_lit 1, nat_lit 709, nat_lit 4, nat_lit 0, nat_lit 0, nat_lit 0, [])) (.leaf (nat_lit 1, nat_lit 710, nat_lit 0, nat_lit 3, nat_lit 0, nat_lit 0, []))) (.branch (nat_lit 712) (.leaf (nat_lit 0, nat_lit 711, nat_lit 0, nat_lit 1, nat_lit 0, nat_lit 0, [])) (.leaf (nat_lit 4, nat_lit 712, nat_lit 0, nat_lit 0, nat_lit 0, nat_lit 0, [])))) (.branch (nat_lit 715) (.branch (nat_lit 714) (.leaf (nat_lit 20, nat_lit 713, nat_lit 0, nat_lit 0, nat_lit 0, nat_lit 0, [])) (.leaf (nat_lit 1, nat_lit 714, nat_lit 4, nat_lit 0, nat_lit 0, nat_lit 0, []))) (.branch (nat_lit 716) (.leaf (nat_lit 1, nat_lit 715, nat_lit 0, nat_lit 3, nat_lit 0, nat_lit 0, [])) (.branch (nat_lit 717) (.leaf (nat_lit 0, nat_lit 716, nat_lit 0, nat_lit 2, nat_lit 0, nat_lit 0, [])) (.leaf (nat_lit 4, nat_lit 717, nat_lit 0, nat_lit 0, nat_lit 0, nat_lit 0, [])))))) (.branch (nat_lit 726) (.branch (nat_lit 722) (.branch (nat_lit 719) (.leaf (nat_lit 20, nat_lit 718, nat_lit 0, nat_lit 0, nat_lit 0, nat_lit 0, [])) (.leaf (nat_lit 23, nat_lit 719, nat_lit 2, nat_lit 79, nat_lit 8056, nat_lit 251, []))) (.branch (nat_lit 725) (.leaf (nat_lit 9, nat_lit 722, nat_lit 0, nat_lit 1740, nat_lit 0, nat_lit 0, [])) (.leaf (nat_lit 0, nat_lit 725, nat_lit 0, nat_lit 0, nat_lit 0, nat_lit 0, [])))) (.branch (nat_lit 728) (.branch (nat_lit 727) (.leaf (nat_lit 24, nat_lit 726, nat_lit 1, nat_lit 0, nat_lit 0, nat_lit 0, [])) (.leaf (nat_lit 1, nat_lit 727, nat_lit 4, nat_lit 1, nat_lit 0, nat_lit 0, []))) (.branch (nat_lit 729) (.leaf (nat_lit 1, nat_lit 728, nat_lit 4, nat_lit 0, nat_lit 0, nat_lit 0, [])) (.branch (nat_lit 730) (.leaf (nat_lit 1, nat_lit 729, nat_lit 0, nat_lit 3, nat_lit 0, nat_lit 0, [])) (.leaf (nat_lit 0, nat_lit 730, nat_lit 0, nat_lit 1, nat_lit 0, nat_lit 0, []))))))) (.branch (nat_lit 742) (.branch (nat_lit 735) (.branch (nat_lit 733) (.branch (nat_lit 732) (.leaf (nat_lit 4, nat_lit 731, nat_lit 0, nat_lit 0, nat_lit 0, nat_lit 0, [])) (.leaf (nat_lit 20, nat_lit 732, nat_lit 0, nat_lit 0, nat_lit 0, nat_lit 0, []))) (.branch (nat_lit 734) (.leaf (nat_lit 1, nat_lit 733, nat_lit 4, nat_lit 0, nat_lit 0, nat_lit 0, [])) (.leaf (nat_lit 1, nat_lit 734, nat_lit 0, nat_lit 3, nat_lit 0, nat_lit 0, [])))) (.branch (nat_lit 737) (.branch (nat_lit 736) (.leaf (nat_lit 0, nat_lit 735, nat_lit 0, nat_lit 2, nat_lit 0, nat_lit 0, [])) (.leaf (nat_lit 4, nat_lit 736, nat_lit 0, nat_lit 0, nat_lit 0, nat_lit 0, []))) (.branch (nat_lit 738) (.leaf (nat_lit 20, nat_lit 737, nat_lit 0, nat_lit 0, nat_lit 0, nat_lit 0, [])) (.branch (nat_lit 741) (.leaf (nat_lit 23, nat_lit 738, nat_lit 2, nat_lit 80, nat_lit 4188, nat_lit 133, [])) (.leaf (nat_lit 1, nat_lit 741, nat_lit 4, nat_lit 2, nat_lit 0, nat_lit 0, [])))))) (.branch (nat_lit 746) (.branch (nat_lit 744) (.branch (nat_lit 743) (.leaf (nat_lit 1, nat_lit 742, nat_lit 4, nat_lit 0, nat_lit 0, nat_lit 0, [])) (.leaf (nat_lit 1, nat_lit 743, nat_lit 0, nat_lit 3, nat_lit 0, nat_lit 0, []))) (.branch (nat_lit 745) (.leaf (nat_lit 0, nat_lit 744, nat_lit 0, nat_lit 1, nat_lit 0, nat_lit 0, [])) (.leaf (nat_lit 4, nat_lit 745, nat_lit 0, nat_lit 0, nat_lit 0, nat_lit 0, [])))) (.branch (nat_lit 748) (.branch (nat_lit 747) (.leaf (nat_lit 20, nat_lit 746, nat_lit 0, nat_lit 0, nat_lit 0, nat_lit 0, [])) (.leaf (nat_lit 1, nat_lit 747, nat_lit 4, nat_lit 0, nat_lit 0, nat_lit 0, []))) (.branch (nat_lit 749) (.leaf (nat_lit 1, nat_lit 748, nat_lit 0, nat_lit 3, nat_lit 0, nat_lit 0, [])) (.branch (nat_lit 750) (.leaf (nat_lit 0, nat_lit 749, nat_lit 0, nat_lit 2, nat_lit 0, nat_lit 0, [])) (.leaf (nat_lit 4, nat_lit 750, nat_lit 0, nat_lit 0, nat_lit 0, nat_lit 0, [])))))))))) (.branch (nat_lit 859) (.branch (nat_lit 801) (.branch (nat_lit 775) (.branch (nat_lit 764) (.branch (nat_lit 759) (.branch (nat_lit 755) (.branch (nat_lit 752) (.leaf (nat_lit 20, nat_lit 751, nat_lit 0, nat_lit 0, nat_lit 0, nat_lit 0, [])) (.leaf (nat_lit 23, nat_lit 752, nat_lit 2, nat_lit 83, nat_lit 8064, nat_lit 252, []))) (.branch (nat_lit 758) (.leaf (nat_lit 9, nat_lit 755, nat_lit 0, nat_lit 1740, nat_lit 0, nat_lit 0, [])) (.leaf (nat_lit 0, nat_lit 758, nat_lit 0, nat_lit 0, nat_lit 0, nat_lit 0, [])))) (.branch (nat_lit 761) (.branch (nat_lit 760) (.leaf (nat_lit 24, nat_lit 759, nat_lit 1, nat_lit 0, nat_lit 0, nat_lit 0, [])) (.leaf (nat_lit 1, nat_lit 760, nat_lit 4, nat_lit 1, nat_lit 0, nat_lit 0, []))) (.branch (nat_lit 762) (.leaf (nat_lit 1, nat_lit 761, nat_lit 4, nat_lit 0, nat_lit 0, nat_lit 0, [])) (.branch (nat_lit 763) (.leaf (nat_lit 1, nat_lit 762, nat_lit 0, nat_lit 3, nat_lit 0, nat_lit 0, [])) (.leaf (nat_lit 0, nat_lit 763, nat_lit 0, nat_lit 1, nat_lit 0, nat_lit 0, [])))))) (.branch (nat_lit 770) (.branch (nat_lit 766) (.branch (nat_lit 765) (.leaf (nat_lit 4, nat_lit 764, nat_lit 0, nat_lit 0, nat_lit 0, nat_lit 0, [])) (.leaf (nat_lit 20, nat_lit 765, nat_lit 0, nat_lit 0, nat_lit 0, nat_lit 0, []))) (.branch (nat_lit 769) (.leaf (nat_lit 23, nat_lit 766, nat_lit 2, nat_lit 84, nat_lit 4192, nat_lit 134, [])) (.leaf (nat_lit 1, nat_lit 769, nat_lit 4, nat_lit 2, nat_lit 0, nat_lit 0, [])))) (.branch (nat_lit 772) (.branch (nat_lit 771) (.leaf (nat_lit 1, nat_lit 770, nat_lit 4, nat_lit 0, nat_lit 0, nat_lit 0, [])) (.leaf (nat_lit 1, nat_lit 771, nat_lit 0, nat_lit 3, nat_lit 0, nat_lit 0, []))) (.branch (nat_lit 773) (.leaf (nat_lit 0, nat_lit 772, nat_lit 0, nat_lit 1, nat_lit 0, nat_lit 0, [])) (.branch (nat_lit 774) (.leaf (nat_lit 4, nat_lit 773, nat_lit 0, nat_lit 0, nat_lit 0, nat_lit 0, [])) (.leaf (nat_lit 20, nat_lit 774, nat_lit 0, nat_lit 0, nat_lit 0, nat_lit 0, []))))))) (.branch (nat_lit 788) (.branch (nat_lit 783) (.branch (nat_lit 781) (.branch (nat_lit 778) (.leaf (nat_lit 23, nat_lit 775, nat_lit 2, nat_lit 87, nat_lit 8068, nat_lit 253, [])) (.leaf (nat_lit 9, nat_lit 778, nat_lit 0, nat_lit 1740, nat_lit 0, nat_lit 0, []))) (.branch (nat_lit 782) (.leaf (nat_lit 0, nat_lit 781, nat_lit 0, nat_lit 0, nat_lit 0, nat_lit 0, [])) (.leaf (nat_lit 24, nat_lit 782, nat_lit 1, nat_lit 0, nat_lit 0, nat_lit 0, [])))) (.branch (nat_lit 785) (.branch (nat_lit 784) (.leaf (nat_lit 1, nat_lit 783, nat_lit 4, nat_lit 1, nat_lit 0, nat_lit 0, [])) (.leaf (nat_lit 1, nat_lit 784, nat_lit 4, nat_lit 0, nat_lit 0, nat_lit 0, []))) (.branch (nat_lit 786) (.leaf (nat_lit 1, nat_lit 785, nat_lit 0, nat_lit 3, nat_lit 0, nat_lit 0, [])) (.branch (nat_lit 787) (.leaf (nat_lit 0, nat_lit 786, nat_lit 0, nat_lit 1, nat_lit 0, nat_lit 0, [])) (.leaf (nat_lit 4, nat_lit 787, nat_lit 0, nat_lit 0, nat_lit 0, nat_lit 0, [])))))) (.branch (nat_lit 794) (.branch (nat_lit 792) (.branch (nat_lit 789) (.leaf (nat_lit 20, nat_lit 788, nat_lit 0, nat_lit 0, nat_lit 0, nat_lit 0, [])) (.leaf (nat_lit 23, nat_lit 789, nat_lit 2, nat_lit 88, nat_lit 4196, nat_lit 135, []))) (.branch (nat_lit 793) (.leaf (nat_lit 1, nat_lit 792, nat_lit 4, nat_lit 2, nat_lit 0, nat_lit 0, [])) (.leaf (nat_lit 1, nat_lit 793, nat_lit 4, nat_lit 0, nat_lit 0, nat_lit 0, [])))) (.branch (nat_lit 796) (.branch (nat_lit 795) (.leaf (nat_lit 1, nat_lit 794, nat_lit 0, nat_lit 3, nat_lit 0, nat_lit 0, [])) (.leaf (nat_lit 0, nat_lit 795, nat_lit 0, nat_lit 1, nat_lit 0, nat_lit 0, []))) (.branch (nat_lit 797) (.leaf (nat_lit 4, nat_lit 796, nat_lit 0, nat_lit 0, nat_lit 0, nat_lit 0, [])) (.branch (nat_lit 798) (.leaf (nat_lit 20, nat_lit 797, nat_lit 0, nat_lit 0, nat_lit 0, nat_lit 0, [])) (.leaf (nat_lit 23, nat_lit 798, nat_lit 2, nat_lit 91, nat_lit 8072, nat_lit 254, [])))))))) (.branch (nat_lit 829) (.branch (nat_lit 818) (.branch (nat_lit 807) (.branch (nat_lit 805) (.branch (nat_lit 804) (.leaf (nat_lit 9, nat_lit 801, nat_lit 0, nat_lit 1740, nat_lit 0, nat_lit 0, [])) (.leaf (nat_lit 0, nat_lit 804, nat_lit 0, nat_lit 0, nat_lit 0, nat_lit 0, []))) (.branch (nat_lit 806) (.leaf (nat_lit 24, nat_lit 805, nat_lit 1, nat_lit 0, nat_lit 0, nat_lit 0, [])) (.leaf (nat_lit 1, nat_lit 806, nat_lit 4, nat_lit 1, nat_lit 0, nat_lit 0, [])))) (.branch (nat_lit 811) (.branch (nat_lit 810) (.leaf (nat_lit 23, nat_lit 807, nat_lit 2, nat_lit 92, nat_lit 4200, nat_lit 136, [])) (.leaf (nat_lit 1, nat_lit 810, nat_lit 4, nat_lit 2, nat_lit 0, nat_lit 0, []))) (.branch (nat_lit 814) (.leaf (nat_lit 23, nat_lit 811, nat_lit 2, nat_lit 95, nat_lit 8076, nat_lit 255, [])) (.branch (nat_lit 817) (.leaf (nat_lit 9, nat_lit 814, nat_lit 0, nat_lit 1740, nat_lit 0, nat_lit 0, [])) (.leaf (nat_lit 0, nat_lit 817, nat_lit 0, nat_lit 0, nat_lit 0, nat_lit 0, [])))))) (.branch (nat_lit 822) (.branch (nat_lit 820) (.branch (nat_lit 819) (.leaf (nat_lit 24, nat_lit 818, nat_lit 1, nat_lit 0, nat_lit 0, nat_lit 0, [])) (.leaf (nat_lit 1, nat_lit 819, nat_lit 4, nat_lit 1, nat_lit 0, nat_lit 0, []))) (.branch (nat_lit 821) (.leaf (nat_lit 1, nat_lit 820, nat_lit 4, nat_lit 0, nat_lit 0, nat_lit 0, [])) (.leaf (nat_lit 1, nat_lit 821, nat_lit 0, nat_lit 3, nat_lit 0, nat_lit 0, [])))) (.branch (nat_lit 824) (.branch (nat_lit 823) (.leaf (nat_lit 0, nat_lit 822, nat_lit 0, nat_lit 1, nat_lit 0, nat_lit 0, [])) (.leaf (nat_lit 4, nat_lit 823, nat_lit 0, nat_lit 0, nat_lit 0, nat_lit 0, []))) (.branch (nat_lit 825) (.leaf (nat_lit 20, nat_lit 824, nat_lit 0, nat_lit 0, nat_lit 0, nat_lit 0, [])) (.branch (nat_lit 828) (.leaf (nat_lit 23, nat_lit 825, nat_lit 2, nat_lit 96, nat_lit 4207, nat_lit 137, [])) (.leaf (nat_lit 1, nat_lit 828, nat_lit 4, nat_lit 2, nat_lit 0, nat_lit 0, []))))))) (.branch (nat_lit 842) (.branch (nat_lit 833) (.branch (nat_lit 831) (.branch (nat_lit 830) (.leaf (nat_lit 1, nat_lit 829, nat_lit 4, nat_lit 0, nat_lit 0, nat_lit 0, [])) (.leaf (nat_lit 1, nat_lit 830, nat_lit 0, nat_lit 3, nat_lit 0, nat_lit 0, []))) (.branch (nat_lit 832) (.leaf (nat_lit 0, nat_lit 831, nat_lit 0, nat_lit 1, nat_lit 0, nat_lit 0, [])) (.leaf (nat_lit 4, nat_lit 832, nat_lit 0, nat_lit 0, nat_lit 0, nat_lit 0, [])))) (.branch (nat_lit 837) (.branch (nat_lit 834) (.leaf (nat_lit 20, nat_lit 833, nat_lit 0, nat_lit 0, nat_lit 0, nat_lit 0, [])) (.leaf (nat_lit 23, nat_lit 834, nat_lit 2, nat_lit 99, nat_lit 8081, nat_lit 256, []))) (.branch (nat_lit 840) (.leaf (nat_lit 9, nat_lit 837, nat_lit 0, nat_lit 1740, nat_lit 0, nat_lit 0, [])) (.branch (nat_lit 841) (.leaf (nat_lit 0, nat_lit 840, nat_lit 0, nat_lit 0, nat_lit 0, nat_lit 0, [])) (.leaf (nat_lit 24, nat_lit 841, nat_lit 1, nat_lit 0, nat_lit 0, nat_lit 0, [])))))) (.branch (nat_lit 850) (.branch (nat_lit 846) (.branch (nat_lit 843) (.leaf (nat_lit 1, nat_lit 842, nat_lit 4, nat_lit 1, nat_lit 0, nat_lit 0, [])) (.leaf (nat_lit 23, nat_lit 843, nat_lit 2, nat_lit 100, nat_lit 4211, nat_lit 138, []))) (.branch (nat_lit 847) (.leaf (nat_lit 1, nat_lit 846, nat_lit 4, nat_lit 2, nat_lit 0, nat_lit 0, [])) (.leaf (nat_lit 23, nat_lit 847, nat_lit 2, nat_lit 103, nat_lit 8085, nat_lit 257, [])))) (.branch (nat_lit 854) (.branch (nat_lit 853) (.leaf (nat_lit 9, nat_lit 850, nat_lit 0, nat_lit 1740, nat_lit 0, nat_lit 0, [])) (.leaf (nat_lit 0, nat_lit 853, nat_lit 0, nat_lit 0, nat_lit 0, nat_lit 0, []))) (.branch (nat_lit 855) (.leaf (nat_lit 24, nat_lit 854, nat_lit 1, nat_lit 0, nat_lit 0, nat_lit 0, [])) (.branch (nat_lit 856) (.leaf (nat_lit 1, nat_lit 855, nat_lit 4, nat_lit 1, nat_lit 0, nat_lit 0, [])) (.leaf (nat_lit 23, nat_lit 856, nat_lit 2, nat_lit 104, nat_lit 4219, nat_lit 139, []))))))))) (.branch (nat_lit 911) (.branch (nat_lit 887) (.branch (nat_lit 876) (.branch (nat_lit 867) (.branch (nat_lit 863) (.branch (nat_lit 860) (.leaf (nat_lit 1, nat_lit 859, nat_lit 4, nat_lit 2, nat_lit 0, nat_lit 0, [])) (.leaf (nat_lit 23, nat_lit 860, nat_lit 2, nat_lit 107, nat_lit 8093, nat_lit 258, []))) (.branch (nat_lit 866) (.leaf (nat_lit 9, nat_lit 863, nat_lit 0, nat_lit 1740, nat_lit 0, nat_lit 0, [])) (.leaf (nat_lit 0, nat_lit 866, nat_lit 0, nat_lit 0, nat_lit 0, nat_lit 0, [])))) (.branch (nat_lit 869) (.branch (nat_lit 868) (.leaf (nat_lit 24, nat_lit 867, nat_lit 1, nat_lit 0, nat_lit 0, nat_lit 0, [])) (.leaf (nat_lit 1, nat_lit 868, nat_lit 4, nat_lit 1, nat_lit 0, nat_lit 0, []))) (.branch (nat_lit 872) (.leaf (nat_lit 23, nat_lit 869, nat_lit 2, nat_lit 108, nat_lit 4228, nat_lit 140, [])) (.branch (nat_lit 873) (.leaf (nat_lit 1, nat_lit 872, nat_lit 4, nat_lit 2, nat_lit 0, nat_lit 0, [])) (.leaf (nat_lit 23, nat_lit 873, nat_lit 2, nat_lit 111, nat_lit 8097, nat_lit 259, [])))))) (.branch (nat_lit 882) (.branch (nat_lit 880) (.branch (nat_lit 879) (.leaf (nat_lit 9, nat_lit 876, nat_lit 0, nat_lit 1740, nat_lit 0, nat_lit 0, [])) (.leaf (nat_lit 0, nat_lit 879, nat_lit 0, nat_lit 0, nat_lit 0, nat_lit 0, []))) (.branch (nat_lit 881) (.leaf (nat_lit 24, nat_lit 880, nat_lit 1, nat_lit 0, nat_lit 0, nat_lit 0, [])) (.leaf (nat_lit 1, nat_lit 881, nat_lit 4, nat_lit 1, nat_lit 0, nat_lit 0, [])))) (.branch (nat_lit 884) (.branch (nat_lit 883) (.leaf (nat_lit 1, nat_lit 882, nat_lit 4, nat_lit 0, nat_lit 0, nat_lit 0, [])) (.leaf (nat_lit 1, nat_lit 883, nat_lit 0, nat_lit 3, nat_lit 0, nat_lit 0, []))) (.branch (nat_lit 885) (.leaf (nat_lit 0, nat_lit 884, nat_lit 0, nat_lit 1, nat_lit 0, nat_lit 0, [])) (.branch (nat_lit 886) (.leaf (nat_lit 4, nat_lit 885, nat_lit 0, nat_lit 0, nat_lit 0, nat_lit 0, [])) (.leaf (nat_lit 20, nat_lit 886, nat_lit 0, nat_lit 0, nat_lit 0, nat_lit 0, []))))))) (.branch (nat_lit 902) (.branch (nat_lit 893) (.branch (nat_lit 891) (.branch (nat_lit 890) (.leaf (nat_lit 23, nat_lit 887, nat_lit 2, nat_lit 112, nat_lit 4236, nat_lit 141, [])) (.leaf (nat_lit 1, nat_lit 890, nat_lit 4, nat_lit 2, nat_lit 0, nat_lit 0, []))) (.branch (nat_lit 892) (.leaf (nat_lit 1, nat_lit 891, nat_lit 4, nat_lit 0, nat_lit 0, nat_lit 0, [])) (.leaf (nat_lit 1, nat_lit 892, nat_lit 0, nat_lit 3, nat_lit 0, nat_lit 0, [])))) (.branch (nat_lit 895) (.branch (nat_lit 894) (.leaf (nat_lit 0, nat_lit 893, nat_lit 0, nat_lit 1, nat_lit 0, nat_lit 0, [])) (.leaf (nat_lit 4, nat_lit 894, nat_lit 0, nat_lit 0, nat_lit 0, nat_lit 0, []))) (.branch (nat_lit 896) (.leaf (nat_lit 20, nat_lit 895, nat_lit 0, nat_lit 0, nat_lit 0, nat_lit 0, [])) (.branch (nat_lit 899) (.leaf (nat_lit 23, nat_lit 896, nat_lit 2, nat_lit 115, nat_lit 8101, nat_lit 260, [])) (.leaf (nat_lit 9, nat_lit 899, nat_lit 0, nat_lit 1740, nat_lit 0, nat_lit 0, [])))))) (.branch (nat_lit 906) (.branch (nat_lit 904) (.branch (nat_lit 903) (.leaf (nat_lit 0, nat_lit 902, nat_lit 0, nat_lit 0, nat_lit 0, nat_lit 0, [])) (.leaf (nat_lit 24, nat_lit 903, nat_lit 1, nat_lit 0, nat_lit 0, nat_lit 0, []))) (.branch (nat_lit 905) (.leaf (nat_lit 1, nat_lit 904, nat_lit 4, nat_lit 1, nat_lit 0, nat_lit 0, [])) (.leaf (nat_lit 1, nat_lit 905, nat_lit 4, nat_lit 0, nat_lit 0, nat_lit 0, [])))) (.branch (nat_lit 908) (.branch (nat_lit 907) (.leaf (nat_lit 1, nat_lit 906, nat_lit 0, nat_lit 3, nat_lit 0, nat_lit 0, [])) (.leaf (nat_lit 0, nat_lit 907, nat_lit 0, nat_lit 1, nat_lit 0, nat_lit 0, []))) (.branch (nat_lit 909) (.leaf (nat_lit 4, nat_lit 908, nat_lit 0, nat_lit 0, nat_lit 0, nat_lit 0, [])) (.branch (nat_lit 910) (.leaf (nat_lit 20, nat_lit 909, nat_lit 0, nat_lit 0, nat_lit 0, nat_lit 0, [])) (.leaf (nat_lit 1, nat_lit 910, nat_lit 4, nat_lit 0, nat_lit 0, nat_lit 0, [])))))))) (.branch (nat_lit 935) (.branch (nat_lit 922) (.branch (nat_lit 915) (.branch (nat_lit 913) (.branch (nat_lit 912) (.leaf (nat_lit 1, nat_lit 911, nat_lit 0, nat_lit 3, nat_lit 0, nat_lit 0, [])) (.leaf (nat_lit 0, nat_lit 912, nat_lit 0, nat_lit 2, nat_lit 0, nat_lit 0, []))) (.branch (nat_lit 914) (.leaf (nat_lit 4, nat_lit 913, nat_lit 0, nat_lit 0, nat_lit 0, nat_lit 0, [])) (.leaf (nat_lit 20, nat_lit 914, nat_lit 0, nat_lit 0, nat_lit 0, nat_lit 0, [])))) (.branch (nat_lit 919) (.branch (nat_lit 918) (.leaf (nat_lit 23, nat_lit 915, nat_lit 2, nat_lit 116, nat_lit 5000, nat_lit 142, [])) (.leaf (nat_lit 1, nat_lit 918, nat_lit 4, nat_lit 2, nat_lit 0, nat_lit 0, []))) (.branch (nat_lit 920) (.leaf (nat_lit 1, nat_lit 919, nat_lit 4, nat_lit 0, nat_lit 0, nat_lit 0, [])) (.branch (nat_lit 921) (.leaf (nat_lit 1, nat_lit 920, nat_lit 0, nat_lit 3, nat_lit 0, nat_lit 0, [])) (.leaf (nat_lit 0, nat_lit 921, nat_lit 0, nat_lit 1, nat_lit 0, nat_lit 0, [])))))) (.branch (nat_lit 926) (.branch (nat_lit 924) (.branch (nat_lit 923) (.leaf (nat_lit 4, nat_lit 922, nat_lit 0, nat_lit 0, nat_lit 0, nat_lit 0, [])) (.leaf (nat_lit 20, nat_lit 923, nat_lit 0, nat_lit 0, nat_lit 0, nat_lit 0, []))) (.branch (nat_lit 925) (.leaf (nat_lit 1, nat_lit 924, nat_lit 4, nat_lit 0, nat_lit 0, nat_lit 0, [])) (.leaf (nat_lit 1, nat_lit 925, nat_lit 0, nat_lit 3, nat_lit 0, nat_lit 0, [])))) (.branch (nat_lit 928) (.branch (nat_lit 927) (.leaf (nat_lit 0, nat_lit 926, nat_lit 0, nat_lit 2, nat_lit 0, nat_lit 0, [])) (.leaf (nat_lit 4, nat_lit 927, nat_lit 0, nat_lit 0, nat_lit 0, nat_lit 0, []))) (.branch (nat_lit 929) (.leaf (nat_lit 20, nat_lit 928, nat_lit 0, nat_lit 0, nat_lit 0, nat_lit 0, [])) (.branch (nat_lit 932) (.leaf (nat_lit 23, nat_lit 929, nat_lit 2, nat_lit 120, nat_lit 8105, nat_lit 261, [])) (.leaf (nat_lit 9, nat_lit 932, nat_lit 0, nat_lit 1740, nat_lit 0, nat_lit 0, []))))))) (.branch (nat_lit 950) (.branch (nat_lit 941) (.branch (nat_lit 937) (.branch (nat_lit 936) (.leaf (nat_lit 0, nat_lit 935, nat_lit 0, nat_lit 0, nat_lit 0, nat_lit 0, [])) (.leaf (nat_lit 24, nat_lit 936, nat_lit 1, nat_lit 0, nat_lit 0, nat_lit 0, []))) (.branch (nat_lit 938) (.leaf (nat_lit 1, nat_lit 937, nat_lit 4, nat_lit 1, nat_lit 0, nat_lit 0, [])) (.leaf (nat_lit 23, nat_lit 938, nat_lit 2, nat_lit 121, nat_lit 5004, nat_lit 143, [])))) (.branch (nat_lit 945) (.branch (nat_lit 942) (.leaf (nat_lit 1, nat_lit 941, nat_lit 4, nat_lit 2, nat_lit 0, nat_lit 0, [])) (.leaf (nat_lit 23, nat_lit 942, nat_lit 2, nat_lit 124, nat_lit 8109, nat_lit 262, []))) (.branch (nat_lit 948) (.leaf (nat_lit 9, nat_lit 945, nat_lit 0, nat_lit 1740, nat_lit 0, nat_lit 0, [])) (.branch (nat_lit 949) (.leaf (nat_lit 0, nat_lit 948, nat_lit 0, nat_lit 0, nat_lit 0, nat_lit 0, [])) (.leaf (nat_lit 24, nat_lit 949, nat_lit 1, nat_lit 0, nat_lit 0, nat_lit 0, [])))))) (.branch (nat_lit 958) (.branch (nat_lit 954) (.branch (nat_lit 951) (.leaf (nat_lit 1, nat_lit 950, nat_lit 4, nat_lit 1, nat_lit 0, nat_lit 0, [])) (.leaf (nat_lit 23, nat_lit 951, nat_lit 2, nat_lit 125, nat_lit 5009, nat_lit 144, []))) (.branch (nat_lit 955) (.leaf (nat_lit 1, nat_lit 954, nat_lit 4, nat_lit 2, nat_lit 0, nat_lit 0, [])) (.leaf (nat_lit 23, nat_lit 955, nat_lit 2, nat_lit 128, nat_lit 8113, nat_lit 263, [])))) (.branch (nat_lit 962) (.branch (nat_lit 961) (.leaf (nat_lit 9, nat_lit 958, nat_lit 0, nat_lit 1740, nat_lit 0, nat_lit 0, [])) (.leaf (nat_lit 0, nat_lit 961, nat_lit 0, nat_lit 0, nat_lit 0, nat_lit 0, []))) (.branch (nat_lit 963) (.leaf (nat_lit 24, nat_lit 962, nat_lit 1, nat_lit 0, nat_lit 0, nat_lit 0, [])) (.branch (nat_lit 964) (.leaf (nat_lit 1, nat_lit 963, nat_lit 4, nat_lit 1, nat_lit 0, nat_lit 0, [])) (.leaf (nat_lit 1, nat_lit 964, nat_lit 4, nat_lit 0, nat_lit 0, nat_lit 0, [])))))))))))) (.branch (nat_lit 1381) (.branch (nat_lit 1176) (.branch (nat_lit 1078) (.branch (nat_lit 1020) (.branch (nat_lit 990) (.branch (nat_lit 977) (.branch (nat_lit 969) (.branch (nat_lit 967) (.branch (nat_lit 966) (.leaf (nat_lit 1, nat_lit 965, nat_lit 0, nat_lit 3, nat_lit 0, nat_lit 0, [])) (.leaf (nat_lit 0, nat_lit 966, nat_lit 0, nat_lit 1, nat_lit 0, nat_lit 0, []))) (.branch (nat_lit 968) (.leaf (nat_lit 4, nat_lit 967, nat_lit 0, nat_lit 0, nat_lit 0, nat_lit 0, [])) (.leaf (nat_lit 20, nat_lit 968, nat_lit 0, nat_lit 0, nat_lit 0, nat_lit 0, [])))) (.branch (nat_lit 973) (.branch (nat_lit 972) (.leaf (nat_lit 8, nat_lit 969, nat_lit 0, nat_lit 976, nat_lit 0, nat_lit 0, [])) (.leaf (nat_lit 0, nat_lit 972, nat_lit 0, nat_lit 1, nat_lit 0, nat_lit 0, []))) (.branch (nat_lit 976) (.leaf (nat_lit 10, nat_lit 973, nat_lit 0, nat_lit 977, nat_lit 0, nat_lit 0, [])) (.leaf (nat_lit 0, nat_lit 976, nat_lit 0, nat_lit 0, nat_lit 0, nat_lit 0, []))))) (.branch (nat_lit 983) (.branch (nat_lit 981) (.branch (nat_lit 980) (.leaf (nat_lit 23, nat_lit 977, nat_lit 2, nat_lit 129, nat_lit 5016, nat_lit 146, [])) (.leaf (nat_lit 1, nat_lit 980, nat_lit 4, nat_lit 2, nat_lit 0, nat_lit 0, []))) (.branch (nat_lit 982) (.leaf (nat_lit 1, nat_lit 981, nat_lit 4, nat_lit 0, nat_lit 0, nat_lit 0, [])) (.leaf (nat_lit 1, nat_lit 982, nat_lit 0, nat_lit 3, nat_lit 0, nat_lit 0, [])))) (.branch (nat_lit 985) (.branch (nat_lit 984) (.leaf (nat_lit 0, nat_lit 983, nat_lit 0, nat_lit 1, nat_lit 0, nat_lit 0, [])) (.leaf (nat_lit 4, nat_lit 984, nat_lit 0, nat_lit 0, nat_lit 0, nat_lit 0, []))) (.branch (nat_lit 986) (.leaf (nat_lit 20, nat_lit 985, nat_lit 0, nat_lit 0, nat_lit 0, nat_lit 0, [])) (.branch (nat_lit 989) (.leaf (nat_lit 8, nat_lit 986, nat_lit 0, nat_lit 993, nat_lit 0, nat_lit 0, [])) (.leaf (nat_lit 0, nat_lit 989, nat_lit 0, nat_lit 1, nat_lit 0, nat_lit 0, []))))))) (.branch (nat_lit 1005) (.branch (nat_lit 1000) (.branch (nat_lit 994) (.branch (nat_lit 993) (.leaf (nat_lit 10, nat_lit 990, nat_lit 0, nat_lit 994, nat_lit 0, nat_lit 0, [])) (.leaf (nat_lit 0, nat_lit 993, nat_lit 0, nat_lit 0, nat_lit 0, nat_lit 0, []))) (.branch (nat_lit 997) (.leaf (nat_lit 23, nat_lit 994, nat_lit 2, nat_lit 133, nat_lit 8117, nat_lit 271, [])) (.leaf (nat_lit 9, nat_lit 997, nat_lit 0, nat_lit 1740, nat_lit 0, nat_lit 0, [])))) (.branch (nat_lit 1002) (.branch (nat_lit 1001) (.leaf (nat_lit 0, nat_lit 1000, nat_lit 0, nat_lit 0, nat_lit 0, nat_lit 0, [])) (.leaf (nat_lit 24, nat_lit 1001, nat_lit 1, nat_lit 0, nat_lit 0, nat_lit 0, []))) (.branch (nat_lit 1003) (.leaf (nat_lit 1, nat_lit 1002, nat_lit 4, nat_lit 1, nat_lit 0, nat_lit 0, [])) (.branch (nat_lit 1004) (.leaf (nat_lit 1, nat_lit 1003, nat_lit 4, nat_lit 0, nat_lit 0, nat_lit 0, [])) (.leaf (nat_lit 1, nat_lit 1004, nat_lit 0, nat_lit 3, nat_lit 0, nat_lit 0, [])))))) (.branch (nat_lit 1011) (.branch (nat_lit 1007) (.branch (nat_lit 1006) (.leaf (nat_lit 0, nat_lit 1005, nat_lit 0, nat_lit 1, nat_lit 0, nat_lit 0, [])) (.leaf (nat_lit 4, nat_lit 1006, nat_lit 0, nat_lit 0, nat_lit 0, nat_lit 0, []))) (.branch (nat_lit 1008) (.leaf (nat_lit 20, nat_lit 1007, nat_lit 0, nat_lit 0, nat_lit 0, nat_lit 0, [])) (.leaf (nat_lit 8, nat_lit 1008, nat_lit 0, nat_lit 1015, nat_lit 0, nat_lit 0, [])))) (.branch (nat_lit 1015) (.branch (nat_lit 1012) (.leaf (nat_lit 0, nat_lit 1011, nat_lit 0, nat_lit 1, nat_lit 0, nat_lit 0, [])) (.leaf (nat_lit 10, nat_lit 1012, nat_lit 0, nat_lit 1016, nat_lit 0, nat_lit 0, []))) (.branch (nat_lit 1016) (.leaf (nat_lit 0, nat_lit 1015, nat_lit 0, nat_lit 0, nat_lit 0, nat_lit 0, [])) (.branch (nat_lit 1019) (.leaf (nat_lit 23, nat_lit 1016, nat_lit 2, nat_lit 134, nat_lit 5053, nat_lit 147, [])) (.leaf (nat_lit 1, nat_lit 1019, nat_lit 4, nat_lit 2, nat_lit 0, nat_lit 0, [])))))))) (.branch (nat_lit 1046) (.branch (nat_lit 1033) (.branch (nat_lit 1024) (.branch (nat_lit 1022) (.branch (nat_lit 1021) (.leaf (nat_lit 1, nat_lit 1020, nat_lit 4, nat_lit 0, nat_lit 0, nat_lit 0, [])) (.leaf (nat_lit 1, nat_lit 1021, nat_lit 0, nat_lit 3, nat_lit 0, nat_lit 0, []))) (.branch (nat_lit 1023) (.leaf (nat_lit 0, nat_lit 1022, nat_lit 0, nat_lit 1, nat_lit 0, nat_lit 0, [])) (.leaf (nat_lit 4, nat_lit 1023, nat_lit 0, nat_lit 0, nat_lit 0, nat_lit 0, [])))) (.branch (nat_lit 1028) (.branch (nat_lit 1025) (.leaf (nat_lit 20, nat_lit 1024, nat_lit 0, nat_lit 0, nat_lit 0, nat_lit 0, [])) (.leaf (nat_lit 8, nat_lit 1025, nat_lit 0, nat_lit 1032, nat_lit 0, nat_lit 0, []))) (.branch (nat_lit 1029) (.leaf (nat_lit 0, nat_lit 1028, nat_lit 0, nat_lit 1, nat_lit 0, nat_lit 0, [])) (.branch (nat_lit 1032) (.leaf (nat_lit 10, nat_lit 1029, nat_lit 0, nat_lit 1033, nat_lit 0, nat_lit 0, [])) (.leaf (nat_lit 0, nat_lit 1032, nat_lit 0, nat_lit 0, nat_lit 0, nat_lit 0, [])))))) (.branch (nat_lit 1041) (.branch (nat_lit 1039) (.branch (nat_lit 1036) (.leaf (nat_lit 23, nat_lit 1033, nat_lit 2, nat_lit 137, nat_lit 8142, nat_lit 272, [])) (.leaf (nat_lit 9, nat_lit 1036, nat_lit 0, nat_lit 1740, nat_lit 0, nat_lit 0, []))) (.branch (nat_lit 1040) (.leaf (nat_lit 0, nat_lit 1039, nat_lit 0, nat_lit 0, nat_lit 0, nat_lit 0, [])) (.leaf (nat_lit 24, nat_lit 1040, nat_lit 1, nat_lit 0, nat_lit 0, nat_lit 0, [])))) (.branch (nat_lit 1043) (.branch (nat_lit 1042) (.leaf (nat_lit 1, nat_lit 1041, nat_lit 4, nat_lit 1, nat_lit 0, nat_lit 0, [])) (.leaf (nat_lit 1, nat_lit 1042, nat_lit 4, nat_lit 0, nat_lit 0, nat_lit 0, []))) (.branch (nat_lit 1044) (.leaf (nat_lit 1, nat_lit 1043, nat_lit 0, nat_lit 3, nat_lit 0, nat_lit 0, [])) (.branch (nat_lit 1045) (.leaf (nat_lit 0, nat_lit 1044, nat_lit 0, nat_lit 1, nat_lit 0, nat_lit 0, [])) (.leaf (nat_lit 4, nat_lit 1045, nat_lit 0, nat_lit 0, nat_lit 0, nat_lit 0, []))))))) (.branch (nat_lit 1061) (.branch (nat_lit 1054) (.branch (nat_lit 1050) (.branch (nat_lit 1047) (.leaf (nat_lit 20, nat_lit 1046, nat_lit 0, nat_lit 0, nat_lit 0, nat_lit 0, [])) (.leaf (nat_lit 8, nat_lit 1047, nat_lit 0, nat_lit 1054, nat_lit 0, nat_lit 0, []))) (.branch (nat_lit 1051) (.leaf (nat_lit 0, nat_lit 1050, nat_lit 0, nat_lit 1, nat_lit 0, nat_lit 0, [])) (.leaf (nat_lit 10, nat_lit 1051, nat_lit 0, nat_lit 1055, nat_lit 0, nat_lit 0, [])))) (.branch (nat_lit 1058) (.branch (nat_lit 1055) (.leaf (nat_lit 0, nat_lit 1054, nat_lit 0, nat_lit 0, nat_lit 0, nat_lit 0, [])) (.leaf (nat_lit 23, nat_lit 1055, nat_lit 2, nat_lit 138, nat_lit 5057, nat_lit 148, []))) (.branch (nat_lit 1059) (.leaf (nat_lit 1, nat_lit 1058, nat_lit 4, nat_lit 2, nat_lit 0, nat_lit 0, [])) (.branch (nat_lit 1060) (.leaf (nat_lit 1, nat_lit 1059, nat_lit 4, nat_lit 0, nat_lit 0, nat_lit 0, [])) (.leaf (nat_lit 1, nat_lit 1060, nat_lit 0, nat_lit 3, nat_lit 0, nat_lit 0, [])))))) (.branch (nat_lit 1067) (.branch (nat_lit 1063) (.branch (nat_lit 1062) (.leaf (nat_lit 0, nat_lit 1061, nat_lit 0, nat_lit 1, nat_lit 0, nat_lit 0, [])) (.leaf (nat_lit 4, nat_lit 1062, nat_lit 0, nat_lit 0, nat_lit 0, nat_lit 0, []))) (.branch (nat_lit 1064) (.leaf (nat_lit 20, nat_lit 1063, nat_lit 0, nat_lit 0, nat_lit 0, nat_lit 0, [])) (.leaf (nat_lit 8, nat_lit 1064, nat_lit 0, nat_lit 1071, nat_lit 0, nat_lit 0, [])))) (.branch (nat_lit 1071) (.branch (nat_lit 1068) (.leaf (nat_lit 0, nat_lit 1067, nat_lit 0, nat_lit 1, nat_lit 0, nat_lit 0, [])) (.leaf (nat_lit 10, nat_lit 1068, nat_lit 0, nat_lit 1072, nat_lit 0, nat_lit 0, []))) (.branch (nat_lit 1072) (.leaf (nat_lit 0, nat_lit 1071, nat_lit 0, nat_lit 0, nat_lit 0, nat_lit 0, [])) (.branch (nat_lit 1075) (.leaf (nat_lit 23, nat_lit 1072, nat_lit 2, nat_lit 141, nat_lit 8150, nat_lit 273, [])) (.leaf (nat_lit 9, nat_lit 1075, nat_lit 0, nat_lit 1740, nat_lit 0, nat_lit 0, []))))))))) (.branch (nat_lit 1126) (.branch (nat_lit 1098) (.branch (nat_lit 1087) (.branch (nat_lit 1082) (.branch (nat_lit 1080) (.branch (nat_lit 1079) (.leaf (nat_lit 0, nat_lit 1078, nat_lit 0, nat_lit 0, nat_lit 0, nat_lit 0, [])) (.leaf (nat_lit 24, nat_lit 1079, nat_lit 1, nat_lit 0, nat_lit 0, nat_lit 0, []))) (.branch (nat_lit 1081) (.leaf (nat_lit 1, nat_lit 1080, nat_lit 4, nat_lit 1, nat_lit 0, nat_lit 0, [])) (.leaf (nat_lit 1, nat_lit 1081, nat_lit 4, nat_lit 0, nat_lit 0, nat_lit 0, [])))) (.branch (nat_lit 1084) (.branch (nat_lit 1083) (.leaf (nat_lit 1, nat_lit 1082, nat_lit 0, nat_lit 3, nat_lit 0, nat_lit 0, [])) (.leaf (nat_lit 0, nat_lit 1083, nat_lit 0, nat_lit 1, nat_lit 0, nat_lit 0, []))) (.branch (nat_lit 1085) (.leaf (nat_lit 4, nat_lit 1084, nat_lit 0, nat_lit 0, nat_lit 0, nat_lit 0, [])) (.branch (nat_lit 1086) (.leaf (nat_lit 20, nat_lit 1085, nat_lit 0, nat_lit 0, nat_lit 0, nat_lit 0, [])) (.leaf (nat_lit 1, nat_lit 1086, nat_lit 4, nat_lit 0, nat_lit 0, nat_lit 0, [])))))) (.branch (nat_lit 1091) (.branch (nat_lit 1089) (.branch (nat_lit 1088) (.leaf (nat_lit 1, nat_lit 1087, nat_lit 0, nat_lit 3, nat_lit 0, nat_lit 0, [])) (.leaf (nat_lit 0, nat_lit 1088, nat_lit 0, nat_lit 2, nat_lit 0, nat_lit 0, []))) (.branch (nat_lit 1090) (.leaf (nat_lit 4, nat_lit 1089, nat_lit 0, nat_lit 0, nat_lit 0, nat_lit 0, [])) (.leaf (nat_lit 20, nat_lit 1090, nat_lit 0, nat_lit 0, nat_lit 0, nat_lit 0, [])))) (.branch (nat_lit 1095) (.branch (nat_lit 1094) (.leaf (nat_lit 23, nat_lit 1091, nat_lit 2, nat_lit 142, nat_lit 5073, nat_lit 149, [])) (.leaf (nat_lit 1, nat_lit 1094, nat_lit 4, nat_lit 2, nat_lit 0, nat_lit 0, []))) (.branch (nat_lit 1096) (.leaf (nat_lit 1, nat_lit 1095, nat_lit 4, nat_lit 0, nat_lit 0, nat_lit 0, [])) (.branch (nat_lit 1097) (.leaf (nat_lit 1, nat_lit 1096, nat_lit 0, nat_lit 3, nat_lit 0, nat_lit 0, [])) (.leaf (nat_lit 0, nat_lit 1097, nat_lit 0, nat_lit 1, nat_lit 0, nat_lit 0, []))))))) (.branch (nat_lit 1111) (.branch (nat_lit 1102) (.branch (nat_lit 1100) (.branch (nat_lit 1099) (.leaf (nat_lit 4, nat_lit 1098, nat_lit 0, nat_lit 0, nat_lit 0, nat_lit 0, [])) (.leaf (nat_lit 20, nat_lit 1099, nat_lit 0, nat_lit 0, nat_lit 0, nat_lit 0, []))) (.branch (nat_lit 1101) (.leaf (nat_lit 1, nat_lit 1100, nat_lit 4, nat_lit 0, nat_lit 0, nat_lit 0, [])) (.leaf (nat_lit 1, nat_lit 1101, nat_lit 0, nat_lit 3, nat_lit 0, nat_lit 0, [])))) (.branch (nat_lit 1104) (.branch (nat_lit 1103) (.leaf (nat_lit 0, nat_lit 1102, nat_lit 0, nat_lit 2, nat_lit 0, nat_lit 0, [])) (.leaf (nat_lit 4, nat_lit 1103, nat_lit 0, nat_lit 0, nat_lit 0, nat_lit 0, []))) (.branch (nat_lit 1105) (.leaf (nat_lit 20, nat_lit 1104, nat_lit 0, nat_lit 0, nat_lit 0, nat_lit 0, [])) (.branch (nat_lit 1108) (.leaf (nat_lit 23, nat_lit 1105, nat_lit 2, nat_lit 145, nat_lit 8158, nat_lit 274, [])) (.leaf (nat_lit 9, nat_lit 1108, nat_lit 0, nat_lit 1740, nat_lit 0, nat_lit 0, [])))))) (.branch (nat_lit 1117) (.branch (nat_lit 1113) (.branch (nat_lit 1112) (.leaf (nat_lit 0, nat_lit 1111, nat_lit 0, nat_lit 0, nat_lit 0, nat_lit 0, [])) (.leaf (nat_lit 24, nat_lit 1112, nat_lit 1, nat_lit 0, nat_lit 0, nat_lit 0, []))) (.branch (nat_lit 1114) (.leaf (nat_lit 1, nat_lit 1113, nat_lit 4, nat_lit 1, nat_lit 0, nat_lit 0, [])) (.leaf (nat_lit 23, nat_lit 1114, nat_lit 2, nat_lit 146, nat_lit 5077, nat_lit 150, [])))) (.branch (nat_lit 1121) (.branch (nat_lit 1118) (.leaf (nat_lit 1, nat_lit 1117, nat_lit 4, nat_lit 2, nat_lit 0, nat_lit 0, [])) (.leaf (nat_lit 23, nat_lit 1118, nat_lit 2, nat_lit 149, nat_lit 8162, nat_lit 275, []))) (.branch (nat_lit 1124) (.leaf (nat_lit 9, nat_lit 1121, nat_lit 0, nat_lit 1740, nat_lit 0, nat_lit 0, [])) (.branch (nat_lit 1125) (.leaf (nat_lit 0, nat_lit 1124, nat_lit 0, nat_lit 0, nat_lit 0, nat_lit 0, [])) (.leaf (nat_lit 24, nat_lit 1125, nat_lit 1, nat_lit 0, nat_lit 0, nat_lit 0, [])))))))) (.branch (nat_lit 1150) (.branch (nat_lit 1135) (.branch (nat_lit 1130) (.branch (nat_lit 1128) (.branch (nat_lit 1127) (.leaf (nat_lit 1, nat_lit 1126, nat_lit 4, nat_lit 1, nat_lit 0, nat_lit 0, [])) (.leaf (nat_lit 1, nat_lit 1127, nat_lit 4, nat_lit 0, nat_lit 0, nat_lit 0, []))) (.branch (nat_lit 1129) (.leaf (nat_lit 1, nat_lit 1128, nat_lit 0, nat_lit 3, nat_lit 0, nat_lit 0, [])) (.leaf (nat_lit 0, nat_lit 1129, nat_lit 0, nat_lit 1, nat_lit 0, nat_lit 0, [])))) (.branch (nat_lit 1132) (.branch (nat_lit 1131) (.leaf (nat_lit 4, nat_lit 1130, nat_lit 0, nat_lit 0, nat_lit 0, nat_lit 0, [])) (.leaf (nat_lit 20, nat_lit 1131, nat_lit 0, nat_lit 0, nat_lit 0, nat_lit 0, []))) (.branch (nat_lit 1133) (.leaf (nat_lit 1, nat_lit 1132, nat_lit 4, nat_lit 0, nat_lit 0, nat_lit 0, [])) (.branch (nat_lit 1134) (.leaf (nat_lit 1, nat_lit 1133, nat_lit 0, nat_lit 3, nat_lit 0, nat_lit 0, [])) (.leaf (nat_lit 0, nat_lit 1134, nat_lit 0, nat_lit 2, nat_lit 0, nat_lit 0, [])))))) (.branch (nat_lit 1141) (.branch (nat_lit 1137) (.branch (nat_lit 1136) (.leaf (nat_lit 4, nat_lit 1135, nat_lit 0, nat_lit 0, nat_lit 0, nat_lit 0, [])) (.leaf (nat_lit 20, nat_lit 1136, nat_lit 0, nat_lit 0, nat_lit 0, nat_lit 0, []))) (.branch (nat_lit 1140) (.leaf (nat_lit 8, nat_lit 1137, nat_lit 0, nat_lit 1144, nat_lit 0, nat_lit 0, [])) (.leaf (nat_lit 0, nat_lit 1140, nat_lit 0, nat_lit 1, nat_lit 0, nat_lit 0, [])))) (.branch (nat_lit 1145) (.branch (nat_lit 1144) (.leaf (nat_lit 10, nat_lit 1141, nat_lit 0, nat_lit 1145, nat_lit 0, nat_lit 0, [])) (.leaf (nat_lit 0, nat_lit 1144, nat_lit 0, nat_lit 0, nat_lit 0, nat_lit 0, []))) (.branch (nat_lit 1148) (.leaf (nat_lit 23, nat_lit 1145, nat_lit 2, nat_lit 150, nat_lit 5081, nat_lit 151, [])) (.branch (nat_lit 1149) (.leaf (nat_lit 1, nat_lit 1148, nat_lit 4, nat_lit 2, nat_lit 0, nat_lit 0, [])) (.leaf (nat_lit 1, nat_lit 1149, nat_lit 4, nat_lit 0, nat_lit 0, nat_lit 0, []))))))) (.branch (nat_lit 1159) (.branch (nat_lit 1154) (.branch (nat_lit 1152) (.branch (nat_lit 1151) (.leaf (nat_lit 1, nat_lit 1150, nat_lit 0, nat_lit 3, nat_lit 0, nat_lit 0, [])) (.leaf (nat_lit 0, nat_lit 1151, nat_lit 0, nat_lit 1, nat_lit 0, nat_lit 0, []))) (.branch (nat_lit 1153) (.leaf (nat_lit 4, nat_lit 1152, nat_lit 0, nat_lit 0, nat_lit 0, nat_lit 0, [])) (.leaf (nat_lit 20, nat_lit 1153, nat_lit 0, nat_lit 0, nat_lit 0, nat_lit 0, [])))) (.branch (nat_lit 1156) (.branch (nat_lit 1155) (.leaf (nat_lit 1, nat_lit 1154, nat_lit 4, nat_lit 0, nat_lit 0, nat_lit 0, [])) (.leaf (nat_lit 1, nat_lit 1155, nat_lit 0, nat_lit 3, nat_lit 0, nat_lit 0, []))) (.branch (nat_lit 1157) (.leaf (nat_lit 0, nat_lit 1156, nat_lit 0, nat_lit 2, nat_lit 0, nat_lit 0, [])) (.branch (nat_lit 1158) (.leaf (nat_lit 4, nat_lit 1157, nat_lit 0, nat_lit 0, nat_lit 0, nat_lit 0, [])) (.leaf (nat_lit 20, nat_lit 1158, nat_lit 0, nat_lit 0, nat_lit 0, nat_lit 0, [])))))) (.branch (nat_lit 1167) (.branch (nat_lit 1163) (.branch (nat_lit 1162) (.leaf (nat_lit 8, nat_lit 1159, nat_lit 0, nat_lit 1166, nat_lit 0, nat_lit 0, [])) (.leaf (nat_lit 0, nat_lit 1162, nat_lit 0, nat_lit 1, nat_lit 0, nat_lit 0, []))) (.branch (nat_lit 1166) (.leaf (nat_lit 10, nat_lit 1163, nat_lit 0, nat_lit 1167, nat_lit 0, nat_lit 0, [])) (.leaf (nat_lit 0, nat_lit 1166, nat_lit 0, nat_lit 0, nat_lit 0, nat_lit 0, [])))) (.branch (nat_lit 1173) (.branch (nat_lit 1170) (.leaf (nat_lit 23, nat_lit 1167, nat_lit 2, nat_lit 154, nat_lit 8166, nat_lit 276, [])) (.leaf (nat_lit 9, nat_lit 1170, nat_lit 0, nat_lit 1740, nat_lit 0, nat_lit 0, []))) (.branch (nat_lit 1174) (.leaf (nat_lit 0, nat_lit 1173, nat_lit 0, nat_lit 0, nat_lit 0, nat_lit 0, [])) (.branch (nat_lit 1175) (.leaf (nat_lit 24, nat_lit 1174, nat_lit 1, nat_lit 0, nat_lit 0, nat_lit 0, [])) (.leaf (nat_lit 1, nat_lit 1175, nat_lit 4, nat_lit 1, nat_lit 0, nat_lit 0, [])))))))))) (.branch (nat_lit 1277) (.branch (nat_lit 1225) (.branch (nat_lit 1199) (.branch (nat_lit 1184) (.branch (nat_lit 1180) (.branch (nat_lit 1178) (.branch (nat_lit 1177) (.leaf (nat_lit 1, nat_lit 1176, nat_lit 4, nat_lit 0, nat_lit 0, nat_lit 0, [])) (.leaf (nat_lit 1, nat_lit 1177, nat_lit 0, nat_lit 3, nat_lit 0, nat_lit 0, []))) (.branch (nat_lit 1179) (.leaf (nat_lit 0, nat_lit 1178, nat_lit 0, nat_lit 1, nat_lit 0, nat_lit 0, [])) (.leaf (nat_lit 4, nat_lit 1179, nat_lit 0, nat_lit 0, nat_lit 0, nat_lit 0, [])))) (.branch (nat_lit 1182) (.branch (nat_lit 1181) (.leaf (nat_lit 20, nat_lit 1180, nat_lit 0, nat_lit 0, nat_lit 0, nat_lit 0, [])) (.leaf (nat_lit 1, nat_lit 1181, nat_lit 4, nat_lit 0, nat_lit 0, nat_lit 0, []))) (.branch (nat_lit 1183) (.leaf (nat_lit 1, nat_lit 1182, nat_lit 0, nat_lit 3, nat_lit 0, nat_lit 0, [])) (.leaf (nat_lit 0, nat_lit 1183, nat_lit 0, nat_lit 2, nat_lit 0, nat_lit 0, []))))) (.branch (nat_lit 1190) (.branch (nat_lit 1186) (.branch (nat_lit 1185) (.leaf (nat_lit 4, nat_lit 1184, nat_lit 0, nat_lit 0, nat_lit 0, nat_lit 0, [])) (.leaf (nat_lit 20, nat_lit 1185, nat_lit 0, nat_lit 0, nat_lit 0, nat_lit 0, []))) (.branch (nat_lit 1189) (.leaf (nat_lit 8, nat_lit 1186, nat_lit 0, nat_lit 1193, nat_lit 0, nat_lit 0, [])) (.leaf (nat_lit 0, nat_lit 1189, nat_lit 0, nat_lit 1, nat_lit 0, nat_lit 0, [])))) (.branch (nat_lit 1194) (.branch (nat_lit 1193) (.leaf (nat_lit 10, nat_lit 1190, nat_lit 0, nat_lit 1194, nat_lit 0, nat_lit 0, [])) (.leaf (nat_lit 0, nat_lit 1193, nat_lit 0, nat_lit 0, nat_lit 0, nat_lit 0, []))) (.branch (nat_lit 1197) (.leaf (nat_lit 23, nat_lit 1194, nat_lit 2, nat_lit 155, nat_lit 5101, nat_lit 152, [])) (.branch (nat_lit 1198) (.leaf (nat_lit 1, nat_lit 1197, nat_lit 4, nat_lit 2, nat_lit 0, nat_lit 0, [])) (.leaf (nat_lit 1, nat_lit 1198, nat_lit 4, nat_lit 0, nat_lit 0, nat_lit 0, []))))))) (.branch (nat_lit 1208) (.branch (nat_lit 1203) (.branch (nat_lit 1201) (.branch (nat_lit 1200) (.leaf (nat_lit 1, nat_lit 1199, nat_lit 0, nat_lit 3, nat_lit 0, nat_lit 0, [])) (.leaf (nat_lit 0, nat_lit 1200, nat_lit 0, nat_lit 1, nat_lit 0, nat_lit 0, []))) (.branch (nat_lit 1202) (.leaf (nat_lit 4, nat_lit 1201, nat_lit 0, nat_lit 0, nat_lit 0, nat_lit 0, [])) (.leaf (nat_lit 20, nat_lit 1202, nat_lit 0, nat_lit 0, nat_lit 0, nat_lit 0, [])))) (.branch (nat_lit 1205) (.branch (nat_lit 1204) (.leaf (nat_lit 1, nat_lit 1203, nat_lit 4, nat_lit 0, nat_lit 0, nat_lit 0, [])) (.leaf (nat_lit 1, nat_lit 1204, nat_lit 0, nat_lit 3, nat_lit 0, nat_lit 0, []))) (.branch (nat_lit 1206) (.leaf (nat_lit 0, nat_lit 1205, nat_lit 0, nat_lit 2, nat_lit 0, nat_lit 0, [])) (.branch (nat_lit 1207) (.leaf (nat_lit 4, nat_lit 1206, nat_lit 0, nat_lit 0, nat_lit 0, nat_lit 0, [])) (.leaf (nat_lit 20, nat_lit 1207, nat_lit 0, nat_lit 0, nat_lit 0, nat_lit 0, [])))))) (.branch (nat_lit 1216) (.branch (nat_lit 1212) (.branch (nat_lit 1211) (.leaf (nat_lit 8, nat_lit 1208, nat_lit 0, nat_lit 1215, nat_lit 0, nat_lit 0, [])) (.leaf (nat_lit 0, nat_lit 1211, nat_lit 0, nat_lit 1, nat_lit 0, nat_lit 0, []))) (.branch (nat_lit 1215) (.leaf (nat_lit 10, nat_lit 1212, nat_lit 0, nat_lit 1216, nat_lit 0, nat_lit 0, [])) (.leaf (nat_lit 0, nat_lit 1215, nat_lit 0, nat_lit 0, nat_lit 0, nat_lit 0, [])))) (.branch (nat_lit 1222) (.branch (nat_lit 1219) (.leaf (nat_lit 23, nat_lit 1216, nat_lit 2, nat_lit 159, nat_lit 8170, nat_lit 278, [])) (.leaf (nat_lit 9, nat_lit 1219, nat_lit 0, nat_lit 1740, nat_lit 0, nat_lit 0, []))) (.branch (nat_lit 1223) (.leaf (nat_lit 0, nat_lit 1222, nat_lit 0, nat_lit 0, nat_lit 0, nat_lit 0, [])) (.branch (nat_lit 1224) (.leaf (nat_lit 24, nat_lit 1223, nat_lit 1, nat_lit 0, nat_lit 0, nat_lit 0, [])) (.leaf (nat_lit 1, nat_lit 1224, nat_lit 4, nat_lit 1, nat_lit 0, nat_lit 0, [])))))))) (.branch (nat_lit 1249) (.branch (nat_lit 1238) (.branch (nat_lit 1229) (.branch (nat_lit 1227) (.branch (nat_lit 1226) (.leaf (nat_lit 1, nat_lit 1225, nat_lit 4, nat_lit 0, nat_lit 0, nat_lit 0, [])) (.leaf (nat_lit 1, nat_lit 1226, nat_lit 0, nat_lit 3, nat_lit 0, nat_lit 0, []))) (.branch (nat_lit 1228) (.leaf (nat_lit 0, nat_lit 1227, nat_lit 0, nat_lit 1, nat_lit 0, nat_lit 0, [])) (.leaf (nat_lit 4, nat_lit 1228, nat_lit 0, nat_lit 0, nat_lit 0, nat_lit 0, [])))) (.branch (nat_lit 1233) (.branch (nat_lit 1230) (.leaf (nat_lit 20, nat_lit 1229, nat_lit 0, nat_lit 0, nat_lit 0, nat_lit 0, [])) (.leaf (nat_lit 8, nat_lit 1230, nat_lit 0, nat_lit 1237, nat_lit 0, nat_lit 0, []))) (.branch (nat_lit 1234) (.leaf (nat_lit 0, nat_lit 1233, nat_lit 0, nat_lit 1, nat_lit 0, nat_lit 0, [])) (.branch (nat_lit 1237) (.leaf (nat_lit 10, nat_lit 1234, nat_lit 0, nat_lit 1238, nat_lit 0, nat_lit 0, [])) (.leaf (nat_lit 0, nat_lit 1237, nat_lit 0, nat_lit 0, nat_lit 0, nat_lit 0, [])))))) (.branch (nat_lit 1242) (.branch (nat_lit 1240) (.branch (nat_lit 1239) (.leaf (nat_lit 1, nat_lit 1238, nat_lit 4, nat_lit 0, nat_lit 0, nat_lit 0, [])) (.leaf (nat_lit 1, nat_lit 1239, nat_lit 0, nat_lit 3, nat_lit 0, nat_lit 0, []))) (.branch (nat_lit 1241) (.leaf (nat_lit 0, nat_lit 1240, nat_lit 0, nat_lit 2, nat_lit 0, nat_lit 0, [])) (.leaf (nat_lit 4, nat_lit 1241, nat_lit 0, nat_lit 0, nat_lit 0, nat_lit 0, [])))) (.branch (nat_lit 1246) (.branch (nat_lit 1243) (.leaf (nat_lit 20, nat_lit 1242, nat_lit 0, nat_lit 0, nat_lit 0, nat_lit 0, [])) (.leaf (nat_lit 23, nat_lit 1243, nat_lit 2, nat_lit 160, nat_lit 5114, nat_lit 153, []))) (.branch (nat_lit 1247) (.leaf (nat_lit 1, nat_lit 1246, nat_lit 4, nat_lit 2, nat_lit 0, nat_lit 0, [])) (.branch (nat_lit 1248) (.leaf (nat_lit 1, nat_lit 1247, nat_lit 4, nat_lit 0, nat_lit 0, nat_lit 0, [])) (.leaf (nat_lit 1, nat_lit 1248, nat_lit 0, nat_lit 3, nat_lit 0, nat_lit 0, []))))))) (.branch (nat_lit 1262) (.branch (nat_lit 1255) (.branch (nat_lit 1251) (.branch (nat_lit 1250) (.leaf (nat_lit 0, nat_lit 1249, nat_lit 0, nat_lit 1, nat_lit 0, nat_lit 0, [])) (.leaf (nat_lit 4, nat_lit 1250, nat_lit 0, nat_lit 0, nat_lit 0, nat_lit 0, []))) (.branch (nat_lit 1252) (.leaf (nat_lit 20, nat_lit 1251, nat_lit 0, nat_lit 0, nat_lit 0, nat_lit 0, [])) (.leaf (nat_lit 8, nat_lit 1252, nat_lit 0, nat_lit 1259, nat_lit 0, nat_lit 0, [])))) (.branch (nat_lit 1259) (.branch (nat_lit 1256) (.leaf (nat_lit 0, nat_lit 1255, nat_lit 0, nat_lit 1, nat_lit 0, nat_lit 0, [])) (.leaf (nat_lit 10, nat_lit 1256, nat_lit 0, nat_lit 1260, nat_lit 0, nat_lit 0, []))) (.branch (nat_lit 1260) (.leaf (nat_lit 0, nat_lit 1259, nat_lit 0, nat_lit 0, nat_lit 0, nat_lit 0, [])) (.branch (nat_lit 1261) (.leaf (nat_lit 1, nat_lit 1260, nat_lit 4, nat_lit 0, nat_lit 0, nat_lit 0, [])) (.leaf (nat_lit 1, nat_lit 1261, nat_lit 0, nat_lit 3, nat_lit 0, nat_lit 0, [])))))) (.branch (nat_lit 1268) (.branch (nat_lit 1264) (.branch (nat_lit 1263) (.leaf (nat_lit 0, nat_lit 1262, nat_lit 0, nat_lit 2, nat_lit 0, nat_lit 0, [])) (.leaf (nat_lit 4, nat_lit 1263, nat_lit 0, nat_lit 0, nat_lit 0, nat_lit 0, []))) (.branch (nat_lit 1265) (.leaf (nat_lit 20, nat_lit 1264, nat_lit 0, nat_lit 0, nat_lit 0, nat_lit 0, [])) (.leaf (nat_lit 23, nat_lit 1265, nat_lit 2, nat_lit 164, nat_lit 8206, nat_lit 287, [])))) (.branch (nat_lit 1272) (.branch (nat_lit 1271) (.leaf (nat_lit 9, nat_lit 1268, nat_lit 0, nat_lit 1740, nat_lit 0, nat_lit 0, [])) (.leaf (nat_lit 0, nat_lit 1271, nat_lit 0, nat_lit 0, nat_lit 0, nat_lit 0, []))) (.branch (nat_lit 1273) (.leaf (nat_lit 24, nat_lit 1272, nat_lit 1, nat_lit 0, nat_lit 0, nat_lit 0, [])) (.branch (nat_lit 1274) (.leaf (nat_lit 1, nat_lit 1273, nat_lit 4, nat_lit 1, nat_lit 0, nat_lit 0, [])) (.leaf (nat_lit 23, nat_lit 1274, nat_lit 2, nat_lit 165, nat_lit 5164, nat_lit 154, []))))))))) (.branch (nat_lit 1323) (.branch (nat_lit 1301) (.branch (nat_lit 1290) (.branch (nat_lit 1285) (.branch (nat_lit 1281) (.branch (nat_lit 1278) (.leaf (nat_lit 1, nat_lit 1277, nat_lit 4, nat_lit 2, nat_lit 0, nat_lit 0, [])) (.leaf (nat_lit 23, nat_lit 1278, nat_lit 2, nat_lit 168, nat_lit 8185, nat_lit 280, []))) (.branch (nat_lit 1284) (.leaf (nat_lit 9, nat_lit 1281, nat_lit 0, nat_lit 1740, nat_lit 0, nat_lit 0, [])) (.leaf (nat_lit 0, nat_lit 1284, nat_lit 0, nat_lit 0, nat_lit 0, nat_lit 0, [])))) (.branch (nat_lit 1287) (.branch (nat_lit 1286) (.leaf (nat_lit 24, nat_lit 1285, nat_lit 1, nat_lit 0, nat_lit 0, nat_lit 0, [])) (.leaf (nat_lit 1, nat_lit 1286, nat_lit 4, nat_lit 1, nat_lit 0, nat_lit 0, []))) (.branch (nat_lit 1288) (.leaf (nat_lit 1, nat_lit 1287, nat_lit 4, nat_lit 0, nat_lit 0, nat_lit 0, [])) (.branch (nat_lit 1289) (.leaf (nat_lit 1, nat_lit 1288, nat_lit 0, nat_lit 3, nat_lit 0, nat_lit 0, [])) (.leaf (nat_lit 0, nat_lit 1289, nat_lit 0, nat_lit 1, nat_lit 0, nat_lit 0, [])))))) (.branch (nat_lit 1294) (.branch (nat_lit 1292) (.branch (nat_lit 1291) (.leaf (nat_lit 4, nat_lit 1290, nat_lit 0, nat_lit 0, nat_lit 0, nat_lit 0, [])) (.leaf (nat_lit 20, nat_lit 1291, nat_lit 0, nat_lit 0, nat_lit 0, nat_lit 0, []))) (.branch (nat_lit 1293) (.leaf (nat_lit 1, nat_lit 1292, nat_lit 4, nat_lit 0, nat_lit 0, nat_lit 0, [])) (.leaf (nat_lit 1, nat_lit 1293, nat_lit 0, nat_lit 3, nat_lit 0, nat_lit 0, [])))) (.branch (nat_lit 1296) (.branch (nat_lit 1295) (.leaf (nat_lit 0, nat_lit 1294, nat_lit 0, nat_lit 2, nat_lit 0, nat_lit 0, [])) (.leaf (nat_lit 4, nat_lit 1295, nat_lit 0, nat_lit 0, nat_lit 0, nat_lit 0, []))) (.branch (nat_lit 1297) (.leaf (nat_lit 20, nat_lit 1296, nat_lit 0, nat_lit 0, nat_lit 0, nat_lit 0, [])) (.branch (nat_lit 1300) (.leaf (nat_lit 23, nat_lit 1297, nat_lit 2, nat_lit 169, nat_lit 5178, nat_lit 155, [])) (.leaf (nat_lit 1, nat_lit 1300, nat_lit 4, nat_lit 2, nat_lit 0, nat_lit 0, []))))))) (.branch (nat_lit 1310) (.branch (nat_lit 1305) (.branch (nat_lit 1303) (.branch (nat_lit 1302) (.leaf (nat_lit 1, nat_lit 1301, nat_lit 4, nat_lit 0, nat_lit 0, nat_lit 0, [])) (.leaf (nat_lit 1, nat_lit 1302, nat_lit 0, nat_lit 3, nat_lit 0, nat_lit 0, []))) (.branch (nat_lit 1304) (.leaf (nat_lit 0, nat_lit 1303, nat_lit 0, nat_lit 1, nat_lit 0, nat_lit 0, [])) (.leaf (nat_lit 4, nat_lit 1304, nat_lit 0, nat_lit 0, nat_lit 0, nat_lit 0, [])))) (.branch (nat_lit 1307) (.branch (nat_lit 1306) (.leaf (nat_lit 20, nat_lit 1305, nat_lit 0, nat_lit 0, nat_lit 0, nat_lit 0, [])) (.leaf (nat_lit 1, nat_lit 1306, nat_lit 4, nat_lit 0, nat_lit 0, nat_lit 0, []))) (.branch (nat_lit 1308) (.leaf (nat_lit 1, nat_lit 1307, nat_lit 0, nat_lit 3, nat_lit 0, nat_lit 0, [])) (.branch (nat_lit 1309) (.leaf (nat_lit 0, nat_lit 1308, nat_lit 0, nat_lit 2, nat_lit 0, nat_lit 0, [])) (.leaf (nat_lit 4, nat_lit 1309, nat_lit 0, nat_lit 0, nat_lit 0, nat_lit 0, [])))))) (.branch (nat_lit 1318) (.branch (nat_lit 1314) (.branch (nat_lit 1311) (.leaf (nat_lit 20, nat_lit 1310, nat_lit 0, nat_lit 0, nat_lit 0, nat_lit 0, [])) (.leaf (nat_lit 23, nat_lit 1311, nat_lit 2, nat_lit 172, nat_lit 8193, nat_lit 281, []))) (.branch (nat_lit 1317) (.leaf (nat_lit 9, nat_lit 1314, nat_lit 0, nat_lit 1740, nat_lit 0, nat_lit 0, [])) (.leaf (nat_lit 0, nat_lit 1317, nat_lit 0, nat_lit 0, nat_lit 0, nat_lit 0, [])))) (.branch (nat_lit 1320) (.branch (nat_lit 1319) (.leaf (nat_lit 24, nat_lit 1318, nat_lit 1, nat_lit 0, nat_lit 0, nat_lit 0, [])) (.leaf (nat_lit 1, nat_lit 1319, nat_lit 4, nat_lit 1, nat_lit 0, nat_lit 0, []))) (.branch (nat_lit 1321) (.leaf (nat_lit 1, nat_lit 1320, nat_lit 4, nat_lit 0, nat_lit 0, nat_lit 0, [])) (.branch (nat_lit 1322) (.leaf (nat_lit 1, nat_lit 1321, nat_lit 0, nat_lit 3, nat_lit 0, nat_lit 0, [])) (.leaf (nat_lit 0, nat_lit 1322, nat_lit 0, nat_lit 1, nat_lit 0, nat_lit 0, [])))))))) (.branch (nat_lit 1353) (.branch (nat_lit 1338) (.branch (nat_lit 1329) (.branch (nat_lit 1325) (.branch (nat_lit 1324) (.leaf (nat_lit 4, nat_lit 1323, nat_lit 0, nat_lit 0, nat_lit 0, nat_lit 0, [])) (.leaf (nat_lit 20, nat_lit 1324, nat_lit 0, nat_lit 0, nat_lit 0, nat_lit 0, []))) (.branch (nat_lit 1328) (.leaf (nat_lit 8, nat_lit 1325, nat_lit 0, nat_lit 1332, nat_lit 0, nat_lit 0, [])) (.leaf (nat_lit 0, nat_lit 1328, nat_lit 0, nat_lit 1, nat_lit 0, nat_lit 0, [])))) (.branch (nat_lit 1333) (.branch (nat_lit 1332) (.leaf (nat_lit 10, nat_lit 1329, nat_lit 0, nat_lit 1333, nat_lit 0, nat_lit 0, [])) (.leaf (nat_lit 0, nat_lit 1332, nat_lit 0, nat_lit 0, nat_lit 0, nat_lit 0, []))) (.branch (nat_lit 1336) (.leaf (nat_lit 23, nat_lit 1333, nat_lit 2, nat_lit 173, nat_lit 5182, nat_lit 156, [])) (.branch (nat_lit 1337) (.leaf (nat_lit 1, nat_lit 1336, nat_lit 4, nat_lit 2, nat_lit 0, nat_lit 0, [])) (.leaf (nat_lit 1, nat_lit 1337, nat_lit 4, nat_lit 0, nat_lit 0, nat_lit 0, [])))))) (.branch (nat_lit 1342) (.branch (nat_lit 1340) (.branch (nat_lit 1339) (.leaf (nat_lit 1, nat_lit 1338, nat_lit 0, nat_lit 3, nat_lit 0, nat_lit 0, [])) (.leaf (nat_lit 0, nat_lit 1339, nat_lit 0, nat_lit 1, nat_lit 0, nat_lit 0, []))) (.branch (nat_lit 1341) (.leaf (nat_lit 4, nat_lit 1340, nat_lit 0, nat_lit 0, nat_lit 0, nat_lit 0, [])) (.leaf (nat_lit 20, nat_lit 1341, nat_lit 0, nat_lit 0, nat_lit 0, nat_lit 0, [])))) (.branch (nat_lit 1346) (.branch (nat_lit 1345) (.leaf (nat_lit 8, nat_lit 1342, nat_lit 0, nat_lit 1349, nat_lit 0, nat_lit 0, [])) (.leaf (nat_lit 0, nat_lit 1345, nat_lit 0, nat_lit 1, nat_lit 0, nat_lit 0, []))) (.branch (nat_lit 1349) (.leaf (nat_lit 10, nat_lit 1346, nat_lit 0, nat_lit 1350, nat_lit 0, nat_lit 0, [])) (.branch (nat_lit 1350) (.leaf (nat_lit 0, nat_lit 1349, nat_lit 0, nat_lit 0, nat_lit 0, nat_lit 0, [])) (.leaf (nat_lit 23, nat_lit 1350, nat_lit 2, nat_lit 176, nat_lit 8197, nat_lit 283, []))))))) (.branch (nat_lit 1370) (.branch (nat_lit 1359) (.branch (nat_lit 1357) (.branch (nat_lit 1356) (.leaf (nat_lit 9, nat_lit 1353, nat_lit 0, nat_lit 1740, nat_lit 0, nat_lit 0, [])) (.leaf (nat_lit 0, nat_lit 1356, nat_lit 0, nat_lit 0, nat_lit 0, nat_lit 0, []))) (.branch (nat_lit 1358) (.leaf (nat_lit 24, nat_lit 1357, nat_lit 1, nat_lit 0, nat_lit 0, nat_lit 0, [])) (.leaf (nat_lit 1, nat_lit 1358, nat_lit 4, nat_lit 1, nat_lit 0, nat_lit 0, [])))) (.branch (nat_lit 1363) (.branch (nat_lit 1362) (.leaf (nat_lit 23, nat_lit 1359, nat_lit 2, nat_lit 177, nat_lit 5194, nat_lit 157, [])) (.leaf (nat_lit 1, nat_lit 1362, nat_lit 4, nat_lit 2, nat_lit 0, nat_lit 0, []))) (.branch (nat_lit 1366) (.leaf (nat_lit 23, nat_lit 1363, nat_lit 2, nat_lit 180, nat_lit 8223, nat_lit 289, [])) (.branch (nat_lit 1369) (.leaf (nat_lit 9, nat_lit 1366, nat_lit 0, nat_lit 1740, nat_lit 0, nat_lit 0, [])) (.leaf (nat_lit 0, nat_lit 1369, nat_lit 0, nat_lit 0, nat_lit 0, nat_lit 0, [])))))) (.branch (nat_lit 1374) (.branch (nat_lit 1372) (.branch (nat_lit 1371) (.leaf (nat_lit 24, nat_lit 1370, nat_lit 1, nat_lit 0, nat_lit 0, nat_lit 0, [])) (.leaf (nat_lit 1, nat_lit 1371, nat_lit 4, nat_lit 1, nat_lit 0, nat_lit 0, []))) (.branch (nat_lit 1373) (.leaf (nat_lit 1, nat_lit 1372, nat_lit 4, nat_lit 0, nat_lit 0, nat_lit 0, [])) (.leaf (nat_lit 1, nat_lit 1373, nat_lit 0, nat_lit 3, nat_lit 0, nat_lit 0, [])))) (.branch (nat_lit 1376) (.branch (nat_lit 1375) (.leaf (nat_lit 0, nat_lit 1374, nat_lit 0, nat_lit 1, nat_lit 0, nat_lit 0, [])) (.leaf (nat_lit 4, nat_lit 1375, nat_lit 0, nat_lit 0, nat_lit 0, nat_lit 0, []))) (.branch (nat_lit 1377) (.leaf (nat_lit 20, nat_lit 1376, nat_lit 0, nat_lit 0, nat_lit 0, nat_lit 0, [])) (.branch (nat_lit 1380) (.leaf (nat_lit 23, nat_lit 1377, nat_lit 2, nat_lit 181, nat_lit 5202, nat_lit 158, [])) (.leaf (nat_lit 1, nat_lit 1380, nat_lit 4, nat_lit 2, nat_lit 0, nat_lit 0, []))))))))))) (.branch (nat_lit 1558) (.branch (nat_lit 1464) (.branch (nat_lit 1422) (.branch (nat_lit 1402) (.branch (nat_lit 1393) (.branch (nat_lit 1385) (.branch (nat_lit 1383) (.branch (nat_lit 1382) (.leaf (nat_lit 1, nat_lit 1381, nat_lit 4, nat_lit 0, nat_lit 0, nat_lit 0, [])) (.leaf (nat_lit 1, nat_lit 1382, nat_lit 0, nat_lit 3, nat_lit 0, nat_lit 0, []))) (.branch (nat_lit 1384) (.leaf (nat_lit 0, nat_lit 1383, nat_lit 0, nat_lit 1, nat_lit 0, nat_lit 0, [])) (.leaf (nat_lit 4, nat_lit 1384, nat_lit 0, nat_lit 0, nat_lit 0, nat_lit 0, [])))) (.branch (nat_lit 1389) (.branch (nat_lit 1386) (.leaf (nat_lit 20, nat_lit 1385, nat_lit 0, nat_lit 0, nat_lit 0, nat_lit 0, [])) (.leaf (nat_lit 23, nat_lit 1386, nat_lit 2, nat_lit 184, nat_lit 8231, nat_lit 290, []))) (.branch (nat_lit 1392) (.leaf (nat_lit 9, nat_lit 1389, nat_lit 0, nat_lit 1740, nat_lit 0, nat_lit 0, [])) (.leaf (nat_lit 0, nat_lit 1392, nat_lit 0, nat_lit 0, nat_lit 0, nat_lit 0, []))))) (.branch (nat_lit 1397) (.branch (nat_lit 1395) (.branch (nat_lit 1394) (.leaf (nat_lit 24, nat_lit 1393, nat_lit 1, nat_lit 0, nat_lit 0, nat_lit 0, [])) (.leaf (nat_lit 1, nat_lit 1394, nat_lit 4, nat_lit 1, nat_lit 0, nat_lit 0, []))) (.branch (nat_lit 1396) (.leaf (nat_lit 1, nat_lit 1395, nat_lit 4, nat_lit 0, nat_lit 0, nat_lit 0, [])) (.leaf (nat_lit 1, nat_lit 1396, nat_lit 0, nat_lit 3, nat_lit 0, nat_lit 0, [])))) (.branch (nat_lit 1399) (.branch (nat_lit 1398) (.leaf (nat_lit 0, nat_lit 1397, nat_lit 0, nat_lit 1, nat_lit 0, nat_lit 0, [])) (.leaf (nat_lit 4, nat_lit 1398, nat_lit 0, nat_lit 0, nat_lit 0, nat_lit 0, []))) (.branch (nat_lit 1400) (.leaf (nat_lit 20, nat_lit 1399, nat_lit 0, nat_lit 0, nat_lit 0, nat_lit 0, [])) (.branch (nat_lit 1401) (.leaf (nat_lit 1, nat_lit 1400, nat_lit 4, nat_lit 0, nat_lit 0, nat_lit 0, [])) (.leaf (nat_lit 1, nat_lit 1401, nat_lit 0, nat_lit 3, nat_lit 0, nat_lit 0, []))))))) (.branch (nat_lit 1413) (.branch (nat_lit 1406) (.branch (nat_lit 1404) (.branch (nat_lit 1403) (.leaf (nat_lit 0, nat_lit 1402, nat_lit 0, nat_lit 2, nat_lit 0, nat_lit 0, [])) (.leaf (nat_lit 4, nat_lit 1403, nat_lit 0, nat_lit 0, nat_lit 0, nat_lit 0, []))) (.branch (nat_lit 1405) (.leaf (nat_lit 20, nat_lit 1404, nat_lit 0, nat_lit 0, nat_lit 0, nat_lit 0, [])) (.leaf (nat_lit 1, nat_lit 1405, nat_lit 4, nat_lit 0, nat_lit 0, nat_lit 0, [])))) (.branch (nat_lit 1408) (.branch (nat_lit 1407) (.leaf (nat_lit 1, nat_lit 1406, nat_lit 0, nat_lit 3, nat_lit 0, nat_lit 0, [])) (.leaf (nat_lit 0, nat_lit 1407, nat_lit 0, nat_lit 3, nat_lit 0, nat_lit 0, []))) (.branch (nat_lit 1409) (.leaf (nat_lit 4, nat_lit 1408, nat_lit 0, nat_lit 0, nat_lit 0, nat_lit 0, [])) (.branch (nat_lit 1410) (.leaf (nat_lit 20, nat_lit 1409, nat_lit 0, nat_lit 0, nat_lit 0, nat_lit 0, [])) (.leaf (nat_lit 23, nat_lit 1410, nat_lit 2, nat_lit 185, nat_lit 5206, nat_lit 159, [])))))) (.branch (nat_lit 1417) (.branch (nat_lit 1415) (.branch (nat_lit 1414) (.leaf (nat_lit 1, nat_lit 1413, nat_lit 4, nat_lit 2, nat_lit 0, nat_lit 0, [])) (.leaf (nat_lit 1, nat_lit 1414, nat_lit 4, nat_lit 0, nat_lit 0, nat_lit 0, []))) (.branch (nat_lit 1416) (.leaf (nat_lit 1, nat_lit 1415, nat_lit 0, nat_lit 3, nat_lit 0, nat_lit 0, [])) (.leaf (nat_lit 0, nat_lit 1416, nat_lit 0, nat_lit 1, nat_lit 0, nat_lit 0, [])))) (.branch (nat_lit 1419) (.branch (nat_lit 1418) (.leaf (nat_lit 4, nat_lit 1417, nat_lit 0, nat_lit 0, nat_lit 0, nat_lit 0, [])) (.leaf (nat_lit 20, nat_lit 1418, nat_lit 0, nat_lit 0, nat_lit 0, nat_lit 0, []))) (.branch (nat_lit 1420) (.leaf (nat_lit 1, nat_lit 1419, nat_lit 4, nat_lit 0, nat_lit 0, nat_lit 0, [])) (.branch (nat_lit 1421) (.leaf (nat_lit 1, nat_lit 1420, nat_lit 0, nat_lit 3, nat_lit 0, nat_lit 0, [])) (.leaf (nat_lit 0, nat_lit 1421, nat_lit 0, nat_lit 2, nat_lit 0, nat_lit 0, [])))))))) (.branch (nat_lit 1444) (.branch (nat_lit 1435) (.branch (nat_lit 1426) (.branch (nat_lit 1424) (.branch (nat_lit 1423) (.leaf (nat_lit 4, nat_lit 1422, nat_lit 0, nat_lit 0, nat_lit 0, nat_lit 0, [])) (.leaf (nat_lit 20, nat_lit 1423, nat_lit 0, nat_lit 0, nat_lit 0, nat_lit 0, []))) (.branch (nat_lit 1425) (.leaf (nat_lit 1, nat_lit 1424, nat_lit 4, nat_lit 0, nat_lit 0, nat_lit 0, [])) (.leaf (nat_lit 1, nat_lit 1425, nat_lit 0, nat_lit 3, nat_lit 0, nat_lit 0, [])))) (.branch (nat_lit 1428) (.branch (nat_lit 1427) (.leaf (nat_lit 0, nat_lit 1426, nat_lit 0, nat_lit 3, nat_lit 0, nat_lit 0, [])) (.leaf (nat_lit 4, nat_lit 1427, nat_lit 0, nat_lit 0, nat_lit 0, nat_lit 0, []))) (.branch (nat_lit 1429) (.leaf (nat_lit 20, nat_lit 1428, nat_lit 0, nat_lit 0, nat_lit 0, nat_lit 0, [])) (.branch (nat_lit 1432) (.leaf (nat_lit 23, nat_lit 1429, nat_lit 2, nat_lit 189, nat_lit 8235, nat_lit 292, [])) (.leaf (nat_lit 9, nat_lit 1432, nat_lit 0, nat_lit 1740, nat_lit 0, nat_lit 0, [])))))) (.branch (nat_lit 1439) (.branch (nat_lit 1437) (.branch (nat_lit 1436) (.leaf (nat_lit 0, nat_lit 1435, nat_lit 0, nat_lit 0, nat_lit 0, nat_lit 0, [])) (.leaf (nat_lit 24, nat_lit 1436, nat_lit 1, nat_lit 0, nat_lit 0, nat_lit 0, []))) (.branch (nat_lit 1438) (.leaf (nat_lit 1, nat_lit 1437, nat_lit 4, nat_lit 1, nat_lit 0, nat_lit 0, [])) (.leaf (nat_lit 1, nat_lit 1438, nat_lit 4, nat_lit 0, nat_lit 0, nat_lit 0, [])))) (.branch (nat_lit 1441) (.branch (nat_lit 1440) (.leaf (nat_lit 1, nat_lit 1439, nat_lit 0, nat_lit 3, nat_lit 0, nat_lit 0, [])) (.leaf (nat_lit 0, nat_lit 1440, nat_lit 0, nat_lit 1, nat_lit 0, nat_lit 0, []))) (.branch (nat_lit 1442) (.leaf (nat_lit 4, nat_lit 1441, nat_lit 0, nat_lit 0, nat_lit 0, nat_lit 0, [])) (.branch (nat_lit 1443) (.leaf (nat_lit 20, nat_lit 1442, nat_lit 0, nat_lit 0, nat_lit 0, nat_lit 0, [])) (.leaf (nat_lit 1, nat_lit 1443, nat_lit 4, nat_lit 0, nat_lit 0, nat_lit 0, []))))))) (.branch (nat_lit 1453) (.branch (nat_lit 1448) (.branch (nat_lit 1446) (.branch (nat_lit 1445) (.leaf (nat_lit 1, nat_lit 1444, nat_lit 0, nat_lit 3, nat_lit 0, nat_lit 0, [])) (.leaf (nat_lit 0, nat_lit 1445, nat_lit 0, nat_lit 2, nat_lit 0, nat_lit 0, []))) (.branch (nat_lit 1447) (.leaf (nat_lit 4, nat_lit 1446, nat_lit 0, nat_lit 0, nat_lit 0, nat_lit 0, [])) (.leaf (nat_lit 20, nat_lit 1447, nat_lit 0, nat_lit 0, nat_lit 0, nat_lit 0, [])))) (.branch (nat_lit 1450) (.branch (nat_lit 1449) (.leaf (nat_lit 1, nat_lit 1448, nat_lit 4, nat_lit 0, nat_lit 0, nat_lit 0, [])) (.leaf (nat_lit 1, nat_lit 1449, nat_lit 0, nat_lit 3, nat_lit 0, nat_lit 0, []))) (.branch (nat_lit 1451) (.leaf (nat_lit 0, nat_lit 1450, nat_lit 0, nat_lit 3, nat_lit 0, nat_lit 0, [])) (.branch (nat_lit 1452) (.leaf (nat_lit 4, nat_lit 1451, nat_lit 0, nat_lit 0, nat_lit 0, nat_lit 0, [])) (.leaf (nat_lit 20, nat_lit 1452, nat_lit 0, nat_lit 0, nat_lit 0, nat_lit 0, [])))))) (.branch (nat_lit 1457) (.branch (nat_lit 1455) (.branch (nat_lit 1454) (.leaf (nat_lit 1, nat_lit 1453, nat_lit 4, nat_lit 0, nat_lit 0, nat_lit 0, [])) (.leaf (nat_lit 1, nat_lit 1454, nat_lit 0, nat_lit 3, nat_lit 0, nat_lit 0, []))) (.branch (nat_lit 1456) (.leaf (nat_lit 0, nat_lit 1455, nat_lit 0, nat_lit 4, nat_lit 0, nat_lit 0, [])) (.leaf (nat_lit 4, nat_lit 1456, nat_lit 0, nat_lit 0, nat_lit 0, nat_lit 0, [])))) (.branch (nat_lit 1461) (.branch (nat_lit 1458) (.leaf (nat_lit 20, nat_lit 1457, nat_lit 0, nat_lit 0, nat_lit 0, nat_lit 0, [])) (.leaf (nat_lit 23, nat_lit 1458, nat_lit 2, nat_lit 190, nat_lit 5218, nat_lit 164, []))) (.branch (nat_lit 1462) (.leaf (nat_lit 1, nat_lit 1461, nat_lit 4, nat_lit 2, nat_lit 0, nat_lit 0, [])) (.branch (nat_lit 1463) (.leaf (nat_lit 1, nat_lit 1462, nat_lit 4, nat_lit 0, nat_lit 0, nat_lit 0, [])) (.leaf (nat_lit 1, nat_lit 1463, nat_lit 0, nat_lit 3, nat_lit 0, nat_lit 0, []))))))))) (.branch (nat_lit 1504) (.branch (nat_lit 1482) (.branch (nat_lit 1473) (.branch (nat_lit 1468) (.branch (nat_lit 1466) (.branch (nat_lit 1465) (.leaf (nat_lit 0, nat_lit 1464, nat_lit 0, nat_lit 1, nat_lit 0, nat_lit 0, [])) (.leaf (nat_lit 4, nat_lit 1465, nat_lit 0, nat_lit 0, nat_lit 0, nat_lit 0, []))) (.branch (nat_lit 1467) (.leaf (nat_lit 20, nat_lit 1466, nat_lit 0, nat_lit 0, nat_lit 0, nat_lit 0, [])) (.leaf (nat_lit 1, nat_lit 1467, nat_lit 4, nat_lit 0, nat_lit 0, nat_lit 0, [])))) (.branch (nat_lit 1470) (.branch (nat_lit 1469) (.leaf (nat_lit 1, nat_lit 1468, nat_lit 0, nat_lit 3, nat_lit 0, nat_lit 0, [])) (.leaf (nat_lit 0, nat_lit 1469, nat_lit 0, nat_lit 2, nat_lit 0, nat_lit 0, []))) (.branch (nat_lit 1471) (.leaf (nat_lit 4, nat_lit 1470, nat_lit 0, nat_lit 0, nat_lit 0, nat_lit 0, [])) (.branch (nat_lit 1472) (.leaf (nat_lit 20, nat_lit 1471, nat_lit 0, nat_lit 0, nat_lit 0, nat_lit 0, [])) (.leaf (nat_lit 1, nat_lit 1472, nat_lit 4, nat_lit 0, nat_lit 0, nat_lit 0, [])))))) (.branch (nat_lit 1477) (.branch (nat_lit 1475) (.branch (nat_lit 1474) (.leaf (nat_lit 1, nat_lit 1473, nat_lit 0, nat_lit 3, nat_lit 0, nat_lit 0, [])) (.leaf (nat_lit 0, nat_lit 1474, nat_lit 0, nat_lit 3, nat_lit 0, nat_lit 0, []))) (.branch (nat_lit 1476) (.leaf (nat_lit 4, nat_lit 1475, nat_lit 0, nat_lit 0, nat_lit 0, nat_lit 0, [])) (.leaf (nat_lit 20, nat_lit 1476, nat_lit 0, nat_lit 0, nat_lit 0, nat_lit 0, [])))) (.branch (nat_lit 1479) (.branch (nat_lit 1478) (.leaf (nat_lit 1, nat_lit 1477, nat_lit 4, nat_lit 0, nat_lit 0, nat_lit 0, [])) (.leaf (nat_lit 1, nat_lit 1478, nat_lit 0, nat_lit 3, nat_lit 0, nat_lit 0, []))) (.branch (nat_lit 1480) (.leaf (nat_lit 0, nat_lit 1479, nat_lit 0, nat_lit 4, nat_lit 0, nat_lit 0, [])) (.branch (nat_lit 1481) (.leaf (nat_lit 4, nat_lit 1480, nat_lit 0, nat_lit 0, nat_lit 0, nat_lit 0, [])) (.leaf (nat_lit 20, nat_lit 1481, nat_lit 0, nat_lit 0, nat_lit 0, nat_lit 0, []))))))) (.branch (nat_lit 1495) (.branch (nat_lit 1490) (.branch (nat_lit 1488) (.branch (nat_lit 1485) (.leaf (nat_lit 23, nat_lit 1482, nat_lit 2, nat_lit 194, nat_lit 9013, nat_lit 293, [])) (.leaf (nat_lit 9, nat_lit 1485, nat_lit 0, nat_lit 1740, nat_lit 0, nat_lit 0, []))) (.branch (nat_lit 1489) (.leaf (nat_lit 0, nat_lit 1488, nat_lit 0, nat_lit 0, nat_lit 0, nat_lit 0, [])) (.leaf (nat_lit 24, nat_lit 1489, nat_lit 1, nat_lit 0, nat_lit 0, nat_lit 0, [])))) (.branch (nat_lit 1492) (.branch (nat_lit 1491) (.leaf (nat_lit 1, nat_lit 1490, nat_lit 4, nat_lit 1, nat_lit 0, nat_lit 0, [])) (.leaf (nat_lit 1, nat_lit 1491, nat_lit 4, nat_lit 0, nat_lit 0, nat_lit 0, []))) (.branch (nat_lit 1493) (.leaf (nat_lit 1, nat_lit 1492, nat_lit 0, nat_lit 3, nat_lit 0, nat_lit 0, [])) (.branch (nat_lit 1494) (.leaf (nat_lit 0, nat_lit 1493, nat_lit 0, nat_lit 1, nat_lit 0, nat_lit 0, [])) (.leaf (nat_lit 4, nat_lit 1494, nat_lit 0, nat_lit 0, nat_lit 0, nat_lit 0, [])))))) (.branch (nat_lit 1499) (.branch (nat_lit 1497) (.branch (nat_lit 1496) (.leaf (nat_lit 20, nat_lit 1495, nat_lit 0, nat_lit 0, nat_lit 0, nat_lit 0, [])) (.leaf (nat_lit 1, nat_lit 1496, nat_lit 4, nat_lit 0, nat_lit 0, nat_lit 0, []))) (.branch (nat_lit 1498) (.leaf (nat_lit 1, nat_lit 1497, nat_lit 0, nat_lit 3, nat_lit 0, nat_lit 0, [])) (.leaf (nat_lit 0, nat_lit 1498, nat_lit 0, nat_lit 2, nat_lit 0, nat_lit 0, [])))) (.branch (nat_lit 1501) (.branch (nat_lit 1500) (.leaf (nat_lit 4, nat_lit 1499, nat_lit 0, nat_lit 0, nat_lit 0, nat_lit 0, [])) (.leaf (nat_lit 20, nat_lit 1500, nat_lit 0, nat_lit 0, nat_lit 0, nat_lit 0, []))) (.branch (nat_lit 1502) (.leaf (nat_lit 1, nat_lit 1501, nat_lit 4, nat_lit 0, nat_lit 0, nat_lit 0, [])) (.branch (nat_lit 1503) (.leaf (nat_lit 1, nat_lit 1502, nat_lit 0, nat_lit 3, nat_lit 0, nat_lit 0, [])) (.leaf (nat_lit 0, nat_lit 1503, nat_lit 0, nat_lit 3, nat_lit 0, nat_lit 0, [])))))))) (.branch (nat_lit 1524) (.branch (nat_lit 1515) (.branch (nat_lit 1510) (.branch (nat_lit 1506) (.branch (nat_lit 1505) (.leaf (nat_lit 4, nat_lit 1504, nat_lit 0, nat_lit 0, nat_lit 0, nat_lit 0, [])) (.leaf (nat_lit 20, nat_lit 1505, nat_lit 0, nat_lit 0, nat_lit 0, nat_lit 0, []))) (.branch (nat_lit 1509) (.leaf (nat_lit 23, nat_lit 1506, nat_lit 2, nat_lit 195, nat_lit 5226, nat_lit 165, [])) (.leaf (nat_lit 1, nat_lit 1509, nat_lit 4, nat_lit 2, nat_lit 0, nat_lit 0, [])))) (.branch (nat_lit 1512) (.branch (nat_lit 1511) (.leaf (nat_lit 1, nat_lit 1510, nat_lit 4, nat_lit 0, nat_lit 0, nat_lit 0, [])) (.leaf (nat_lit 1, nat_lit 1511, nat_lit 0, nat_lit 3, nat_lit 0, nat_lit 0, []))) (.branch (nat_lit 1513) (.leaf (nat_lit 0, nat_lit 1512, nat_lit 0, nat_lit 1, nat_lit 0, nat_lit 0, [])) (.branch (nat_lit 1514) (.leaf (nat_lit 4, nat_lit 1513, nat_lit 0, nat_lit 0, nat_lit 0, nat_lit 0, [])) (.leaf (nat_lit 20, nat_lit 1514, nat_lit 0, nat_lit 0, nat_lit 0, nat_lit 0, [])))))) (.branch (nat_lit 1519) (.branch (nat_lit 1517) (.branch (nat_lit 1516) (.leaf (nat_lit 1, nat_lit 1515, nat_lit 4, nat_lit 0, nat_lit 0, nat_lit 0, [])) (.leaf (nat_lit 1, nat_lit 1516, nat_lit 0, nat_lit 3, nat_lit 0, nat_lit 0, []))) (.branch (nat_lit 1518) (.leaf (nat_lit 0, nat_lit 1517, nat_lit 0, nat_lit 2, nat_lit 0, nat_lit 0, [])) (.leaf (nat_lit 4, nat_lit 1518, nat_lit 0, nat_lit 0, nat_lit 0, nat_lit 0, [])))) (.branch (nat_lit 1521) (.branch (nat_lit 1520) (.leaf (nat_lit 20, nat_lit 1519, nat_lit 0, nat_lit 0, nat_lit 0, nat_lit 0, [])) (.leaf (nat_lit 1, nat_lit 1520, nat_lit 4, nat_lit 0, nat_lit 0, nat_lit 0, []))) (.branch (nat_lit 1522) (.leaf (nat_lit 1, nat_lit 1521, nat_lit 0, nat_lit 3, nat_lit 0, nat_lit 0, [])) (.branch (nat_lit 1523) (.leaf (nat_lit 0, nat_lit 1522, nat_lit 0, nat_lit 3, nat_lit 0, nat_lit 0, [])) (.leaf (nat_lit 4, nat_lit 1523, nat_lit 0, nat_lit 0, nat_lit 0, nat_lit 0, []))))))) (.branch (nat_lit 1541) (.branch (nat_lit 1532) (.branch (nat_lit 1528) (.branch (nat_lit 1525) (.leaf (nat_lit 20, nat_lit 1524, nat_lit 0, nat_lit 0, nat_lit 0, nat_lit 0, [])) (.leaf (nat_lit 23, nat_lit 1525, nat_lit 2, nat_lit 198, nat_lit 9019, nat_lit 294, []))) (.branch (nat_lit 1531) (.leaf (nat_lit 9, nat_lit 1528, nat_lit 0, nat_lit 1740, nat_lit 0, nat_lit 0, [])) (.leaf (nat_lit 0, nat_lit 1531, nat_lit 0, nat_lit 0, nat_lit 0, nat_lit 0, [])))) (.branch (nat_lit 1534) (.branch (nat_lit 1533) (.leaf (nat_lit 24, nat_lit 1532, nat_lit 1, nat_lit 0, nat_lit 0, nat_lit 0, [])) (.leaf (nat_lit 1, nat_lit 1533, nat_lit 4, nat_lit 1, nat_lit 0, nat_lit 0, []))) (.branch (nat_lit 1537) (.leaf (nat_lit 23, nat_lit 1534, nat_lit 2, nat_lit 199, nat_lit 5230, nat_lit 166, [])) (.branch (nat_lit 1538) (.leaf (nat_lit 1, nat_lit 1537, nat_lit 4, nat_lit 2, nat_lit 0, nat_lit 0, [])) (.leaf (nat_lit 23, nat_lit 1538, nat_lit 2, nat_lit 202, nat_lit 9024, nat_lit 296, [])))))) (.branch (nat_lit 1547) (.branch (nat_lit 1545) (.branch (nat_lit 1544) (.leaf (nat_lit 9, nat_lit 1541, nat_lit 0, nat_lit 1740, nat_lit 0, nat_lit 0, [])) (.leaf (nat_lit 0, nat_lit 1544, nat_lit 0, nat_lit 0, nat_lit 0, nat_lit 0, []))) (.branch (nat_lit 1546) (.leaf (nat_lit 24, nat_lit 1545, nat_lit 1, nat_lit 0, nat_lit 0, nat_lit 0, [])) (.leaf (nat_lit 1, nat_lit 1546, nat_lit 4, nat_lit 1, nat_lit 0, nat_lit 0, [])))) (.branch (nat_lit 1551) (.branch (nat_lit 1550) (.leaf (nat_lit 23, nat_lit 1547, nat_lit 2, nat_lit 203, nat_lit 5239, nat_lit 167, [])) (.leaf (nat_lit 1, nat_lit 1550, nat_lit 4, nat_lit 2, nat_lit 0, nat_lit 0, []))) (.branch (nat_lit 1554) (.leaf (nat_lit 23, nat_lit 1551, nat_lit 2, nat_lit 206, nat_lit 9032, nat_lit 297, [])) (.branch (nat_lit 1557) (.leaf (nat_lit 9, nat_lit 1554, nat_lit 0, nat_lit 1740, nat_lit 0, nat_lit 0, [])) (.leaf (nat_lit 0, nat_lit 1557, nat_lit 0, nat_lit 0, nat_lit 0, nat_lit 0, [])))))))))) (.branch (nat_lit 1648) (.branch (nat_lit 1602) (.branch (nat_lit 1578) (.branch (nat_lit 1567) (.branch (nat_lit 1562) (.branch (nat_lit 1560) (.branch (nat_lit 1559) (.leaf (nat_lit 24, nat_lit 1558, nat_lit 1, nat_lit 0, nat_lit 0, nat_lit 0, [])) (.leaf (nat_lit 1, nat_lit 1559, nat_lit 4, nat_lit 1, nat_lit 0, nat_lit 0, []))) (.branch (nat_lit 1561) (.leaf (nat_lit 1, nat_lit 1560, nat_lit 4, nat_lit 0, nat_lit 0, nat_lit 0, [])) (.leaf (nat_lit 1, nat_lit 1561, nat_lit 0, nat_lit 3, nat_lit 0, nat_lit 0, [])))) (.branch (nat_lit 1564) (.branch (nat_lit 1563) (.leaf (nat_lit 0, nat_lit 1562, nat_lit 0, nat_lit 1, nat_lit 0, nat_lit 0, [])) (.leaf (nat_lit 4, nat_lit 1563, nat_lit 0, nat_lit 0, nat_lit 0, nat_lit 0, []))) (.branch (nat_lit 1565) (.leaf (nat_lit 20, nat_lit 1564, nat_lit 0, nat_lit 0, nat_lit 0, nat_lit 0, [])) (.branch (nat_lit 1566) (.leaf (nat_lit 1, nat_lit 1565, nat_lit 4, nat_lit 0, nat_lit 0, nat_lit 0, [])) (.leaf (nat_lit 1, nat_lit 1566, nat_lit 0, nat_lit 3, nat_lit 0, nat_lit 0, [])))))) (.branch (nat_lit 1573) (.branch (nat_lit 1569) (.branch (nat_lit 1568) (.leaf (nat_lit 0, nat_lit 1567, nat_lit 0, nat_lit 2, nat_lit 0, nat_lit 0, [])) (.leaf (nat_lit 4, nat_lit 1568, nat_lit 0, nat_lit 0, nat_lit 0, nat_lit 0, []))) (.branch (nat_lit 1570) (.leaf (nat_lit 20, nat_lit 1569, nat_lit 0, nat_lit 0, nat_lit 0, nat_lit 0, [])) (.leaf (nat_lit 23, nat_lit 1570, nat_lit 2, nat_lit 207, nat_lit 6003, nat_lit 168, [])))) (.branch (nat_lit 1575) (.branch (nat_lit 1574) (.leaf (nat_lit 1, nat_lit 1573, nat_lit 4, nat_lit 2, nat_lit 0, nat_lit 0, [])) (.leaf (nat_lit 1, nat_lit 1574, nat_lit 4, nat_lit 0, nat_lit 0, nat_lit 0, []))) (.branch (nat_lit 1576) (.leaf (nat_lit 1, nat_lit 1575, nat_lit 0, nat_lit 3, nat_lit 0, nat_lit 0, [])) (.branch (nat_lit 1577) (.leaf (nat_lit 0, nat_lit 1576, nat_lit 0, nat_lit 1, nat_lit 0, nat_lit 0, [])) (.leaf (nat_lit 4, nat_lit 1577, nat_lit 0, nat_lit 0, nat_lit 0, nat_lit 0, []))))))) (.branch (nat_lit 1591) (.branch (nat_lit 1582) (.branch (nat_lit 1580) (.branch (nat_lit 1579) (.leaf (nat_lit 20, nat_lit 1578, nat_lit 0, nat_lit 0, nat_lit 0, nat_lit 0, [])) (.leaf (nat_lit 1, nat_lit 1579, nat_lit 4, nat_lit 0, nat_lit 0, nat_lit 0, []))) (.branch (nat_lit 1581) (.leaf (nat_lit 1, nat_lit 1580, nat_lit 0, nat_lit 3, nat_lit 0, nat_lit 0, [])) (.leaf (nat_lit 0, nat_lit 1581, nat_lit 0, nat_lit 2, nat_lit 0, nat_lit 0, [])))) (.branch (nat_lit 1584) (.branch (nat_lit 1583) (.leaf (nat_lit 4, nat_lit 1582, nat_lit 0, nat_lit 0, nat_lit 0, nat_lit 0, [])) (.leaf (nat_lit 20, nat_lit 1583, nat_lit 0, nat_lit 0, nat_lit 0, nat_lit 0, []))) (.branch (nat_lit 1587) (.leaf (nat_lit 23, nat_lit 1584, nat_lit 2, nat_lit 210, nat_lit 9036, nat_lit 298, [])) (.branch (nat_lit 1590) (.leaf (nat_lit 9, nat_lit 1587, nat_lit 0, nat_lit 1740, nat_lit 0, nat_lit 0, [])) (.leaf (nat_lit 0, nat_lit 1590, nat_lit 0, nat_lit 0, nat_lit 0, nat_lit 0, [])))))) (.branch (nat_lit 1595) (.branch (nat_lit 1593) (.branch (nat_lit 1592) (.leaf (nat_lit 24, nat_lit 1591, nat_lit 1, nat_lit 0, nat_lit 0, nat_lit 0, [])) (.leaf (nat_lit 1, nat_lit 1592, nat_lit 4, nat_lit 1, nat_lit 0, nat_lit 0, []))) (.branch (nat_lit 1594) (.leaf (nat_lit 1, nat_lit 1593, nat_lit 4, nat_lit 0, nat_lit 0, nat_lit 0, [])) (.leaf (nat_lit 1, nat_lit 1594, nat_lit 0, nat_lit 3, nat_lit 0, nat_lit 0, [])))) (.branch (nat_lit 1597) (.branch (nat_lit 1596) (.leaf (nat_lit 0, nat_lit 1595, nat_lit 0, nat_lit 1, nat_lit 0, nat_lit 0, [])) (.leaf (nat_lit 4, nat_lit 1596, nat_lit 0, nat_lit 0, nat_lit 0, nat_lit 0, []))) (.branch (nat_lit 1598) (.leaf (nat_lit 20, nat_lit 1597, nat_lit 0, nat_lit 0, nat_lit 0, nat_lit 0, [])) (.branch (nat_lit 1601) (.leaf (nat_lit 23, nat_lit 1598, nat_lit 2, nat_lit 211, nat_lit 6015, nat_lit 169, [])) (.leaf (nat_lit 1, nat_lit 1601, nat_lit 4, nat_lit 2, nat_lit 0, nat_lit 0, [])))))))) (.branch (nat_lit 1624) (.branch (nat_lit 1615) (.branch (nat_lit 1606) (.branch (nat_lit 1604) (.branch (nat_lit 1603) (.leaf (nat_lit 1, nat_lit 1602, nat_lit 4, nat_lit 0, nat_lit 0, nat_lit 0, [])) (.leaf (nat_lit 1, nat_lit 1603, nat_lit 0, nat_lit 3, nat_lit 0, nat_lit 0, []))) (.branch (nat_lit 1605) (.leaf (nat_lit 0, nat_lit 1604, nat_lit 0, nat_lit 1, nat_lit 0, nat_lit 0, [])) (.leaf (nat_lit 4, nat_lit 1605, nat_lit 0, nat_lit 0, nat_lit 0, nat_lit 0, [])))) (.branch (nat_lit 1610) (.branch (nat_lit 1607) (.leaf (nat_lit 20, nat_lit 1606, nat_lit 0, nat_lit 0, nat_lit 0, nat_lit 0, [])) (.leaf (nat_lit 23, nat_lit 1607, nat_lit 2, nat_lit 215, nat_lit 9040, nat_lit 299, []))) (.branch (nat_lit 1613) (.leaf (nat_lit 9, nat_lit 1610, nat_lit 0, nat_lit 1740, nat_lit 0, nat_lit 0, [])) (.branch (nat_lit 1614) (.leaf (nat_lit 0, nat_lit 1613, nat_lit 0, nat_lit 0, nat_lit 0, nat_lit 0, [])) (.leaf (nat_lit 24, nat_lit 1614, nat_lit 1, nat_lit 0, nat_lit 0, nat_lit 0, [])))))) (.branch (nat_lit 1619) (.branch (nat_lit 1617) (.branch (nat_lit 1616) (.leaf (nat_lit 1, nat_lit 1615, nat_lit 4, nat_lit 1, nat_lit 0, nat_lit 0, [])) (.leaf (nat_lit 1, nat_lit 1616, nat_lit 4, nat_lit 0, nat_lit 0, nat_lit 0, []))) (.branch (nat_lit 1618) (.leaf (nat_lit 1, nat_lit 1617, nat_lit 0, nat_lit 3, nat_lit 0, nat_lit 0, [])) (.leaf (nat_lit 0, nat_lit 1618, nat_lit 0, nat_lit 1, nat_lit 0, nat_lit 0, [])))) (.branch (nat_lit 1621) (.branch (nat_lit 1620) (.leaf (nat_lit 4, nat_lit 1619, nat_lit 0, nat_lit 0, nat_lit 0, nat_lit 0, [])) (.leaf (nat_lit 20, nat_lit 1620, nat_lit 0, nat_lit 0, nat_lit 0, nat_lit 0, []))) (.branch (nat_lit 1622) (.leaf (nat_lit 1, nat_lit 1621, nat_lit 4, nat_lit 0, nat_lit 0, nat_lit 0, [])) (.branch (nat_lit 1623) (.leaf (nat_lit 1, nat_lit 1622, nat_lit 0, nat_lit 3, nat_lit 0, nat_lit 0, [])) (.leaf (nat_lit 0, nat_lit 1623, nat_lit 0, nat_lit 2, nat_lit 0, nat_lit 0, []))))))) (.branch (nat_lit 1635) (.branch (nat_lit 1630) (.branch (nat_lit 1626) (.branch (nat_lit 1625) (.leaf (nat_lit 4, nat_lit 1624, nat_lit 0, nat_lit 0, nat_lit 0, nat_lit 0, [])) (.leaf (nat_lit 20, nat_lit 1625, nat_lit 0, nat_lit 0, nat_lit 0, nat_lit 0, []))) (.branch (nat_lit 1629) (.leaf (nat_lit 23, nat_lit 1626, nat_lit 2, nat_lit 216, nat_lit 6019, nat_lit 171, [])) (.leaf (nat_lit 1, nat_lit 1629, nat_lit 4, nat_lit 2, nat_lit 0, nat_lit 0, [])))) (.branch (nat_lit 1632) (.branch (nat_lit 1631) (.leaf (nat_lit 1, nat_lit 1630, nat_lit 4, nat_lit 0, nat_lit 0, nat_lit 0, [])) (.leaf (nat_lit 1, nat_lit 1631, nat_lit 0, nat_lit 3, nat_lit 0, nat_lit 0, []))) (.branch (nat_lit 1633) (.leaf (nat_lit 0, nat_lit 1632, nat_lit 0, nat_lit 1, nat_lit 0, nat_lit 0, [])) (.branch (nat_lit 1634) (.leaf (nat_lit 4, nat_lit 1633, nat_lit 0, nat_lit 0, nat_lit 0, nat_lit 0, [])) (.leaf (nat_lit 20, nat_lit 1634, nat_lit 0, nat_lit 0, nat_lit 0, nat_lit 0, [])))))) (.branch (nat_lit 1639) (.branch (nat_lit 1637) (.branch (nat_lit 1636) (.leaf (nat_lit 1, nat_lit 1635, nat_lit 4, nat_lit 0, nat_lit 0, nat_lit 0, [])) (.leaf (nat_lit 1, nat_lit 1636, nat_lit 0, nat_lit 3, nat_lit 0, nat_lit 0, []))) (.branch (nat_lit 1638) (.leaf (nat_lit 0, nat_lit 1637, nat_lit 0, nat_lit 2, nat_lit 0, nat_lit 0, [])) (.leaf (nat_lit 4, nat_lit 1638, nat_lit 0, nat_lit 0, nat_lit 0, nat_lit 0, [])))) (.branch (nat_lit 1643) (.branch (nat_lit 1640) (.leaf (nat_lit 20, nat_lit 1639, nat_lit 0, nat_lit 0, nat_lit 0, nat_lit 0, [])) (.leaf (nat_lit 23, nat_lit 1640, nat_lit 2, nat_lit 219, nat_lit 9044, nat_lit 308, []))) (.branch (nat_lit 1646) (.leaf (nat_lit 9, nat_lit 1643, nat_lit 0, nat_lit 1740, nat_lit 0, nat_lit 0, [])) (.branch (nat_lit 1647) (.leaf (nat_lit 0, nat_lit 1646, nat_lit 0, nat_lit 0, nat_lit 0, nat_lit 0, [])) (.leaf (nat_lit 24, nat_lit 1647, nat_lit 1, nat_lit 0, nat_lit 0, nat_lit 0, []))))))))) (.branch (nat_lit 1692) (.branch (nat_lit 1672) (.branch (nat_lit 1659) (.branch (nat_lit 1652) (.branch (nat_lit 1650) (.branch (nat_lit 1649) (.leaf (nat_lit 1, nat_lit 1648, nat_lit 4, nat_lit 1, nat_lit 0, nat_lit 0, [])) (.leaf (nat_lit 1, nat_lit 1649, nat_lit 4, nat_lit 0, nat_lit 0, nat_lit 0, []))) (.branch (nat_lit 1651) (.leaf (nat_lit 1, nat_lit 1650, nat_lit 0, nat_lit 3, nat_lit 0, nat_lit 0, [])) (.leaf (nat_lit 0, nat_lit 1651, nat_lit 0, nat_lit 1, nat_lit 0, nat_lit 0, [])))) (.branch (nat_lit 1654) (.branch (nat_lit 1653) (.leaf (nat_lit 4, nat_lit 1652, nat_lit 0, nat_lit 0, nat_lit 0, nat_lit 0, [])) (.leaf (nat_lit 20, nat_lit 1653, nat_lit 0, nat_lit 0, nat_lit 0, nat_lit 0, []))) (.branch (nat_lit 1657) (.leaf (nat_lit 23, nat_lit 1654, nat_lit 2, nat_lit 220, nat_lit 6069, nat_lit 172, [])) (.branch (nat_lit 1658) (.leaf (nat_lit 1, nat_lit 1657, nat_lit 4, nat_lit 2, nat_lit 0, nat_lit 0, [])) (.leaf (nat_lit 1, nat_lit 1658, nat_lit 4, nat_lit 0, nat_lit 0, nat_lit 0, [])))))) (.branch (nat_lit 1663) (.branch (nat_lit 1661) (.branch (nat_lit 1660) (.leaf (nat_lit 1, nat_lit 1659, nat_lit 0, nat_lit 3, nat_lit 0, nat_lit 0, [])) (.leaf (nat_lit 0, nat_lit 1660, nat_lit 0, nat_lit 1, nat_lit 0, nat_lit 0, []))) (.branch (nat_lit 1662) (.leaf (nat_lit 4, nat_lit 1661, nat_lit 0, nat_lit 0, nat_lit 0, nat_lit 0, [])) (.leaf (nat_lit 20, nat_lit 1662, nat_lit 0, nat_lit 0, nat_lit 0, nat_lit 0, [])))) (.branch (nat_lit 1669) (.branch (nat_lit 1666) (.leaf (nat_lit 23, nat_lit 1663, nat_lit 2, nat_lit 223, nat_lit 9082, nat_lit 309, [])) (.leaf (nat_lit 9, nat_lit 1666, nat_lit 0, nat_lit 1740, nat_lit 0, nat_lit 0, []))) (.branch (nat_lit 1670) (.leaf (nat_lit 0, nat_lit 1669, nat_lit 0, nat_lit 0, nat_lit 0, nat_lit 0, [])) (.branch (nat_lit 1671) (.leaf (nat_lit 24, nat_lit 1670, nat_lit 1, nat_lit 0, nat_lit 0, nat_lit 0, [])) (.leaf (nat_lit 1, nat_lit 1671, nat_lit 4, nat_lit 1, nat_lit 0, nat_lit 0, []))))))) (.branch (nat_lit 1681) (.branch (nat_lit 1676) (.branch (nat_lit 1674) (.branch (nat_lit 1673) (.leaf (nat_lit 1, nat_lit 1672, nat_lit 4, nat_lit 0, nat_lit 0, nat_lit 0, [])) (.leaf (nat_lit 1, nat_lit 1673, nat_lit 0, nat_lit 3, nat_lit 0, nat_lit 0, []))) (.branch (nat_lit 1675) (.leaf (nat_lit 0, nat_lit 1674, nat_lit 0, nat_lit 1, nat_lit 0, nat_lit 0, [])) (.leaf (nat_lit 4, nat_lit 1675, nat_lit 0, nat_lit 0, nat_lit 0, nat_lit 0, [])))) (.branch (nat_lit 1678) (.branch (nat_lit 1677) (.leaf (nat_lit 20, nat_lit 1676, nat_lit 0, nat_lit 0, nat_lit 0, nat_lit 0, [])) (.leaf (nat_lit 1, nat_lit 1677, nat_lit 4, nat_lit 0, nat_lit 0, nat_lit 0, []))) (.branch (nat_lit 1679) (.leaf (nat_lit 1, nat_lit 1678, nat_lit 0, nat_lit 3, nat_lit 0, nat_lit 0, [])) (.branch (nat_lit 1680) (.leaf (nat_lit 0, nat_lit 1679, nat_lit 0, nat_lit 2, nat_lit 0, nat_lit 0, [])) (.leaf (nat_lit 4, nat_lit 1680, nat_lit 0, nat_lit 0, nat_lit 0, nat_lit 0, [])))))) (.branch (nat_lit 1685) (.branch (nat_lit 1683) (.branch (nat_lit 1682) (.leaf (nat_lit 20, nat_lit 1681, nat_lit 0, nat_lit 0, nat_lit 0, nat_lit 0, [])) (.leaf (nat_lit 1, nat_lit 1682, nat_lit 4, nat_lit 0, nat_lit 0, nat_lit 0, []))) (.branch (nat_lit 1684) (.leaf (nat_lit 1, nat_lit 1683, nat_lit 0, nat_lit 3, nat_lit 0, nat_lit 0, [])) (.leaf (nat_lit 0, nat_lit 1684, nat_lit 0, nat_lit 3, nat_lit 0, nat_lit 0, [])))) (.branch (nat_lit 1687) (.branch (nat_lit 1686) (.leaf (nat_lit 4, nat_lit 1685, nat_lit 0, nat_lit 0, nat_lit 0, nat_lit 0, [])) (.leaf (nat_lit 20, nat_lit 1686, nat_lit 0, nat_lit 0, nat_lit 0, nat_lit 0, []))) (.branch (nat_lit 1690) (.leaf (nat_lit 23, nat_lit 1687, nat_lit 2, nat_lit 224, nat_lit 6073, nat_lit 173, [])) (.branch (nat_lit 1691) (.leaf (nat_lit 1, nat_lit 1690, nat_lit 4, nat_lit 2, nat_lit 0, nat_lit 0, [])) (.leaf (nat_lit 1, nat_lit 1691, nat_lit 4, nat_lit 0, nat_lit 0, nat_lit 0, [])))))))) (.branch (nat_lit 1714) (.branch (nat_lit 1701) (.branch (nat_lit 1696) (.branch (nat_lit 1694) (.branch (nat_lit 1693) (.leaf (nat_lit 1, nat_lit 1692, nat_lit 0, nat_lit 3, nat_lit 0, nat_lit 0, [])) (.leaf (nat_lit 0, nat_lit 1693, nat_lit 0, nat_lit 1, nat_lit 0, nat_lit 0, []))) (.branch (nat_lit 1695) (.leaf (nat_lit 4, nat_lit 1694, nat_lit 0, nat_lit 0, nat_lit 0, nat_lit 0, [])) (.leaf (nat_lit 20, nat_lit 1695, nat_lit 0, nat_lit 0, nat_lit 0, nat_lit 0, [])))) (.branch (nat_lit 1698) (.branch (nat_lit 1697) (.leaf (nat_lit 1, nat_lit 1696, nat_lit 4, nat_lit 0, nat_lit 0, nat_lit 0, [])) (.leaf (nat_lit 1, nat_lit 1697, nat_lit 0, nat_lit 3, nat_lit 0, nat_lit 0, []))) (.branch (nat_lit 1699) (.leaf (nat_lit 0, nat_lit 1698, nat_lit 0, nat_lit 2, nat_lit 0, nat_lit 0, [])) (.branch (nat_lit 1700) (.leaf (nat_lit 4, nat_lit 1699, nat_lit 0, nat_lit 0, nat_lit 0, nat_lit 0, [])) (.leaf (nat_lit 20, nat_lit 1700, nat_lit 0, nat_lit 0, nat_lit 0, nat_lit 0, [])))))) (.branch (nat_lit 1705) (.branch (nat_lit 1703) (.branch (nat_lit 1702) (.leaf (nat_lit 1, nat_lit 1701, nat_lit 4, nat_lit 0, nat_lit 0, nat_lit 0, [])) (.leaf (nat_lit 1, nat_lit 1702, nat_lit 0, nat_lit 3, nat_lit 0, nat_lit 0, []))) (.branch (nat_lit 1704) (.leaf (nat_lit 0, nat_lit 1703, nat_lit 0, nat_lit 3, nat_lit 0, nat_lit 0, [])) (.leaf (nat_lit 4, nat_lit 1704, nat_lit 0, nat_lit 0, nat_lit 0, nat_lit 0, [])))) (.branch (nat_lit 1709) (.branch (nat_lit 1706) (.leaf (nat_lit 20, nat_lit 1705, nat_lit 0, nat_lit 0, nat_lit 0, nat_lit 0, [])) (.leaf (nat_lit 23, nat_lit 1706, nat_lit 2, nat_lit 227, nat_lit 9086, nat_lit 311, []))) (.branch (nat_lit 1712) (.leaf (nat_lit 9, nat_lit 1709, nat_lit 0, nat_lit 1740, nat_lit 0, nat_lit 0, [])) (.branch (nat_lit 1713) (.leaf (nat_lit 0, nat_lit 1712, nat_lit 0, nat_lit 0, nat_lit 0, nat_lit 0, [])) (.leaf (nat_lit 24, nat_lit 1713, nat_lit 1, nat_lit 0, nat_lit 0, nat_lit 0, []))))))) (.branch (nat_lit 1731) (.branch (nat_lit 1722) (.branch (nat_lit 1718) (.branch (nat_lit 1715) (.leaf (nat_lit 1, nat_lit 1714, nat_lit 4, nat_lit 1, nat_lit 0, nat_lit 0, [])) (.leaf (nat_lit 23, nat_lit 1715, nat_lit 2, nat_lit 228, nat_lit 6081, nat_lit 175, []))) (.branch (nat_lit 1719) (.leaf (nat_lit 1, nat_lit 1718, nat_lit 4, nat_lit 2, nat_lit 0, nat_lit 0, [])) (.leaf (nat_lit 23, nat_lit 1719, nat_lit 2, nat_lit 231, nat_lit 9095, nat_lit 313, [])))) (.branch (nat_lit 1726) (.branch (nat_lit 1725) (.leaf (nat_lit 9, nat_lit 1722, nat_lit 0, nat_lit 1740, nat_lit 0, nat_lit 0, [])) (.leaf (nat_lit 0, nat_lit 1725, nat_lit 0, nat_lit 0, nat_lit 0, nat_lit 0, []))) (.branch (nat_lit 1727) (.leaf (nat_lit 24, nat_lit 1726, nat_lit 1, nat_lit 0, nat_lit 0, nat_lit 0, [])) (.branch (nat_lit 1728) (.leaf (nat_lit 1, nat_lit 1727, nat_lit 4, nat_lit 1, nat_lit 0, nat_lit 0, [])) (.leaf (nat_lit 23, nat_lit 1728, nat_lit 2, nat_lit 232, nat_lit 6091, nat_lit 176, [])))))) (.branch (nat_lit 1739) (.branch (nat_lit 1735) (.branch (nat_lit 1732) (.leaf (nat_lit 1, nat_lit 1731, nat_lit 4, nat_lit 2, nat_lit 0, nat_lit 0, [])) (.leaf (nat_lit 23, nat_lit 1732, nat_lit 2, nat_lit 235, nat_lit 9103, nat_lit 314, []))) (.branch (nat_lit 1738) (.leaf (nat_lit 9, nat_lit 1735, nat_lit 0, nat_lit 1740, nat_lit 0, nat_lit 0, [])) (.leaf (nat_lit 0, nat_lit 1738, nat_lit 0, nat_lit 0, nat_lit 0, nat_lit 0, [])))) (.branch (nat_lit 1743) (.branch (nat_lit 1740) (.leaf (nat_lit 24, nat_lit 1739, nat_lit 1, nat_lit 0, nat_lit 0, nat_lit 0, [])) (.leaf (nat_lit 3, nat_lit 1740, nat_lit 0, nat_lit 3, nat_lit 6, nat_lit 0, []))) (.branch (nat_lit 1746) (.leaf (nat_lit 10, nat_lit 1743, nat_lit 0, nat_lit 18, nat_lit 0, nat_lit 0, [])) (.branch (nat_lit 1747) (.leaf (nat_lit 0, nat_lit 1746, nat_lit 0, nat_lit 1, nat_lit 0, nat_lit 0, [])) (.leaf (nat_lit 24, nat_lit 1747, nat_lit 1, nat_lit 0, nat_lit 0, nat_lit 0, [])))))))))))))
end
section
-- 18.run: the abstract machine as a program; what it says holds
noncomputable def q_ap (a b : Option (List qO)) : Option (List qO) := match a with
  | none => none
  | some x => (match b with
    | none => none
    | some y => some (x ++ y))
noncomputable def q_fr (ih : qE → qH → Nat → Nat → Nat → qL → List qV → Option (List qO)) (nx : List qF) : Option (List qO) :=
  List.rec (motive := fun _ => Option (List qO)) (some []) (fun f fs r => match f with
    | (env, h, k, sl, pc, lv, stk) => (match fs with
      | [] => ih env h k sl pc lv stk
      | _ :: _ => q_ap (ih env h k sl pc lv stk) r)) nx
noncomputable def q_spt (n : Nat) : List qV → List qV → Option (List qV × List qV) := Nat.rec (motive := fun _ => List qV → List qV → Option (List qV × List qV)) (fun stk acc => some (acc, stk))
  (fun _ ih stk acc => match stk with
    | [] => none
    | x :: stk => ih stk (x :: acc)) n
def q_cns (x : Option qV) (rest : List qV) : List qV := match x with
  | none => rest
  | some y => y :: rest
noncomputable def q_fo (ih : qE → qH → Nat → Nat → Nat → qL → List qV → Option (List qO)) (k sl pc : Nat) (lv : qL) (rest : List qV) (os : List qO) : Option (List qO) :=
  List.rec (motive := fun _ => Option (List qO)) (some []) (fun o os r => match o with
    | (env, h, x) => (match os with
      | [] => ih env h k sl pc lv (q_cns x rest)
      | _ :: _ => q_ap (ih env h k sl pc lv (q_cns x rest)) r)) os
abbrev q_ccall : Type := Nat → qE → qH → List qV → Option (List qO)
noncomputable def q_ca (call : q_ccall) (M M' : qM) (id : Nat) (ih : qE → qH → Nat → Nat → Nat → qL → List qV → Option (List qO)) (env : qE) (h : qH) (k sl pc : Nat) (lv : qL) (stk : List qV) : Option (List qO) :=
  match q_spt (bif Nat.beq (q_mK M') 0 then q_mA M' else q_mA M' + 1) stk [] with
  | none => none
  | some (av, rest) =>
    bif q_rcv (q_mK M') (q_mC M') h av && (Nat.ble (rest.map q_cat).sum 8 && (Nat.ble (k + q_mc M') (q_mc M) && Nat.ble (sl + q_ms M') (q_ms M))) then
      (match call id env h av with
      | none => none
      | some os => q_fc (k + q_mc M') fun k1 => q_fc (sl + q_ms M') fun s1 => q_fc (pc + 3) fun pc1 => q_fo ih k1 s1 pc1 lv rest os)
    else none
noncomputable def q_body (tab : Nat → qM) (call : q_ccall) (M : qM) (scr : Bool) (L : Nat) (ih : qE → qH → Nat → Nat → Nat → qL → List qV → Option (List qO)) (env : qE) (h : qH) (k sl pc : Nat) (lv : qL) (stk : List qV) : Option (List qO) :=
  match (q_mI M).get pc with
  | (op, p, v, a, b, w, t) =>
    bif Nat.beq p pc then
      bif Nat.beq op 24 then
        (match q_rvo (q_mT M) v stk with
        | none => none
        | some r => bif Nat.ble k (q_mc M) && Nat.ble sl (q_ms M) then some [(env, h, r)] else none)
      else bif Nat.beq op 23 then q_ca call M (tab w) w ih env h k sl pc lv stk
      else (match q_step (q_mc M) (q_ms M) scr L (q_mL M) (op, p, v, a, b, w, t) env h k sl lv stk with
        | none => none
        | some nx => q_fr ih nx)
    else none
noncomputable def q_rf (tab : Nat → qM) (call : q_ccall) (M : qM) (scr : Bool) (L : Nat) (n : Nat) : qE → qH → Nat → Nat → Nat → qL → List qV → Option (List qO) :=
  Nat.rec (motive := fun _ => qE → qH → Nat → Nat → Nat → qL → List qV → Option (List qO)) (fun _ _ _ _ _ _ _ => none) (fun _ ih => q_body tab call M scr L ih) n
noncomputable def q_cM (tab : Nat → qM) (fuel : Nat) (d : Nat) : q_ccall := Nat.rec (motive := fun _ => q_ccall) (fun _ _ _ _ => none)
  (fun _ ih id env h av => bif Nat.ble (av.map q_cat).sum (q_mL (tab id)) then q_nrm (q_args 0 av) fun lv => q_rf tab ih (tab id) false 0 fuel env h 0 0 0 lv [] else none) d

def q_cMono (call : q_call) : Prop := ∀ (id : Nat) (env : qE) (h : qH) (av : List qV) (P P' : qO → Prop), (∀ o, P o → P' o) → call id env h av P → call id env h av P'
theorem q_GS_mono {tab : Nat → qM} {call : q_call} (hc : q_cMono call) {M : qM} {scr : Bool} {L : Nat} {G G' : qF → (qO → Prop) → Prop} {P P' : qO → Prop} {fr : qF} (hP : ∀ o, P o → P' o) (hG : ∀ f, G f P → G' f P') (h : q_GS tab call M scr L G fr P) : q_GS tab call M scr L G' fr P' := by
  rcases h with ⟨hpc, ⟨hop, r, hr, c1, c2, h1⟩ | ⟨hop, av, rest, hstk, hlen, hrcv, h8, c1, c2, h1⟩ | ⟨nx, hs, hn⟩⟩ | ⟨I, hI, h1⟩
  · exact Or.inl ⟨hpc, Or.inl ⟨hop, r, hr, c1, c2, hP _ h1⟩⟩
  · exact Or.inl ⟨hpc, Or.inr (Or.inl ⟨hop, av, rest, hstk, hlen, hrcv, h8, c1, c2, hc _ _ _ _ _ _ (fun o ho => hG _ ho) h1⟩)⟩
  · exact Or.inl ⟨hpc, Or.inr (Or.inr ⟨nx, hs, fun f hf => hG f (hn f hf)⟩)⟩
  · exact Or.inr ⟨I, hI, fun f hf => hG f (h1 f hf)⟩
theorem q_GF_mono {tab : Nat → qM} {call : q_call} (hc : q_cMono call) {M : qM} {scr : Bool} {L : Nat} : ∀ (n m : Nat) (fr : qF) (P P' : qO → Prop), n ≤ m → (∀ o, P o → P' o) → q_GF tab call M scr L n fr P → q_GF tab call M scr L m fr P'
  | 0, _, _, _, _, _, _, h => (h : False).elim
  | n + 1, 0, _, _, _, hn, _, _ => by omega
  | n + 1, m + 1, fr, P, P', hn, hP, h => q_GS_mono hc hP (fun f hf => q_GF_mono hc n m f P P' (by omega) hP hf) h
theorem q_GM_mono (tab : Nat → qM) : ∀ d, q_cMono (q_GM tab d)
  | 0 => fun _ _ _ _ _ _ _ h => (h : False).elim
  | d + 1 => fun id env h av P P' hP ⟨h1, n, h2⟩ => ⟨h1, n, q_GF_mono (q_GM_mono tab d) n n _ P P' (Nat.le_refl _) hP h2⟩
theorem q_ap_some {a b : Option (List qO)} {os : List qO} (h : q_ap a b = some os) : ∃ x y, a = some x ∧ b = some y ∧ os = x ++ y := by
  unfold q_ap at h
  cases a with
  | none => cases h
  | some x => cases b with
    | none => cases h
    | some y => exact ⟨x, y, rfl, rfl, (Option.some.inj h).symm⟩
theorem q_fr_in {ih : qE → qH → Nat → Nat → Nat → qL → List qV → Option (List qO)} : ∀ {nx : List qF} {os : List qO}, q_fr ih nx = some os → ∀ f ∈ nx, ∃ os', ih f.1 f.2.1 f.2.2.1 f.2.2.2.1 f.2.2.2.2.1 f.2.2.2.2.2.1 f.2.2.2.2.2.2 = some os' ∧ ∀ o ∈ os', o ∈ os
  | [], _, _, f, hf => absurd hf List.not_mem_nil
  | [g], os, h, f, hf => by
    obtain ⟨env, hh, k, sl, pc, lv, stk⟩ := g
    have h : ih env hh k sl pc lv stk = some os := h
    rw [List.mem_singleton.mp hf]
    exact ⟨os, h, fun o ho => ho⟩
  | g :: g2 :: gs, os, h, f, hf => by
    obtain ⟨env, hh, k, sl, pc, lv, stk⟩ := g
    have h : q_ap (ih env hh k sl pc lv stk) (q_fr ih (g2 :: gs)) = some os := h
    obtain ⟨x, y, hx, hy, rfl⟩ := q_ap_some h
    rcases List.mem_cons.mp hf with rfl | hf
    · exact ⟨x, hx, fun o ho => List.mem_append_left _ ho⟩
    · obtain ⟨os', h1, h2⟩ := q_fr_in hy f hf
      exact ⟨os', h1, fun o ho => List.mem_append_right _ (h2 o ho)⟩
theorem q_cns_eq {x : Option qV} {rest : List qV} : q_cns x rest = x.toList ++ rest := by cases x <;> rfl
theorem q_fo_in {ih : qE → qH → Nat → Nat → Nat → qL → List qV → Option (List qO)} {k sl pc : Nat} {lv : qL} {rest : List qV} : ∀ {oo os : List qO}, q_fo ih k sl pc lv rest oo = some os → ∀ o ∈ oo, ∃ os', ih o.1 o.2.1 k sl pc lv (o.2.2.toList ++ rest) = some os' ∧ ∀ p ∈ os', p ∈ os
  | [], _, _, f, hf => absurd hf List.not_mem_nil
  | [g], os, h, f, hf => by
    obtain ⟨env, hh, x⟩ := g
    have h : ih env hh k sl pc lv (q_cns x rest) = some os := h
    rw [q_cns_eq] at h
    rw [List.mem_singleton.mp hf]
    exact ⟨os, h, fun o ho => ho⟩
  | g :: g2 :: gs, os, h, f, hf => by
    obtain ⟨env, hh, x⟩ := g
    have h : q_ap (ih env hh k sl pc lv (q_cns x rest)) (q_fo ih k sl pc lv rest (g2 :: gs)) = some os := h
    rw [q_cns_eq] at h
    obtain ⟨x, y, hx, hy, rfl⟩ := q_ap_some h
    rcases List.mem_cons.mp hf with rfl | hf
    · exact ⟨x, hx, fun o ho => List.mem_append_left _ ho⟩
    · obtain ⟨os', h1, h2⟩ := q_fo_in hy f hf
      exact ⟨os', h1, fun o ho => List.mem_append_right _ (h2 o ho)⟩
theorem q_spt_ok : ∀ {n : Nat} {stk acc av rest : List qV}, q_spt n stk acc = some (av, rest) → ∃ xs, xs.length = n ∧ av = xs ++ acc ∧ stk = xs.reverse ++ rest
  | 0, stk, acc, av, rest, h => by
    have h : some (acc, stk) = some (av, rest) := h
    cases h
    exact ⟨[], rfl, rfl, rfl⟩
  | n + 1, [], acc, av, rest, h => by
    have h : (none : Option (List qV × List qV)) = some (av, rest) := h
    cases h
  | n + 1, x :: stk, acc, av, rest, h => by
    have h : q_spt n stk (x :: acc) = some (av, rest) := h
    obtain ⟨xs, h1, h2, h3⟩ := q_spt_ok h
    exact ⟨xs ++ [x], by rw [List.length_append, h1]; rfl, by rw [h2, List.append_assoc]; rfl, by rw [h3, List.reverse_append]; rfl⟩
theorem q_rf_ok {tab : Nat → qM} {cc : q_ccall} {call : q_call} {M : qM} {scr : Bool} {L : Nat} (hcall : ∀ id env h av os, cc id env h av = some os → ∀ P : qO → Prop, (∀ o ∈ os, P o) → call id env h av P) :
    ∀ (n : Nat) (env : qE) (h : qH) (k sl pc : Nat) (lv : qL) (stk : List qV) (os : List qO), q_rf tab cc M scr L n env h k sl pc lv stk = some os → ∀ P : qO → Prop, (∀ o ∈ os, P o) → q_GF tab call M scr L n (env, h, k, sl, pc, lv, stk) P := by
  intro n
  induction n with
  | zero => intro env h k sl pc lv stk os hs; cases hs
  | succ n ih =>
    intro env h k sl pc lv stk os hs P hP
    have hs : q_body tab cc M scr L (q_rf tab cc M scr L n) env h k sl pc lv stk = some os := hs
    unfold q_body at hs
    refine Or.inl ?_
    show q_pc ((q_mI M).get pc) = pc ∧ _
    generalize he : (q_mI M).get pc = e at hs
    obtain ⟨op, p, v, a, b, w, t⟩ := e
    obtain ⟨hp, hs⟩ := q_bt (b := Nat.beq p pc) (x := bif Nat.beq op 24 then
        (match q_rvo (q_mT M) v stk with
        | none => none
        | some r => bif Nat.ble k (q_mc M) && Nat.ble sl (q_ms M) then some [(env, h, r)] else none)
      else bif Nat.beq op 23 then q_ca cc M (tab w) w (q_rf tab cc M scr L n) env h k sl pc lv stk
      else (match q_step (q_mc M) (q_ms M) scr L (q_mL M) (op, p, v, a, b, w, t) env h k sl lv stk with
        | none => none
        | some nx => q_fr (q_rf tab cc M scr L n) nx)) hs
    refine ⟨Nat.eq_of_beq_eq_true hp, ?_⟩
    rcases q_bf hs with ⟨h24, hs⟩ | ⟨h24, hs⟩
    · refine Or.inl ⟨Nat.eq_of_beq_eq_true h24, ?_⟩
      cases hr : q_rvo (q_mT M) v stk with
      | none => rw [hr] at hs; cases hs
      | some r =>
        rw [hr] at hs
        obtain ⟨hk, hs⟩ := q_bt hs
        rw [Bool.and_eq_true] at hk
        cases hs
        exact ⟨r, rfl, Nat.le_of_ble_eq_true hk.1, Nat.le_of_ble_eq_true hk.2, hP _ (List.mem_singleton.mpr rfl)⟩
    · rcases q_bf hs with ⟨h23, hs⟩ | ⟨h23, hs⟩
      · refine Or.inr (Or.inl ⟨Nat.eq_of_beq_eq_true h23, ?_⟩)
        unfold q_ca at hs
        cases hsp : q_spt (bif Nat.beq (q_mK (tab w)) 0 then q_mA (tab w) else q_mA (tab w) + 1) stk [] with
        | none => rw [hsp] at hs; cases hs
        | some ar =>
          obtain ⟨av, rest⟩ := ar
          rw [hsp] at hs
          obtain ⟨xs, x1, x2, x3⟩ := q_spt_ok hsp
          rw [List.append_nil] at x2
          subst x2
          obtain ⟨hk, hs⟩ := q_bt hs
          simp only [Bool.and_eq_true] at hk
          obtain ⟨k1, k2, k3, k4⟩ := hk
          cases hc : cc w env h av with
          | none => rw [hc] at hs; cases hs
          | some oo =>
            rw [hc] at hs
            have hs : (q_fc (k + q_mc (tab w)) fun k1 => q_fc (sl + q_ms (tab w)) fun s1 => q_fc (pc + 3) fun pc1 => q_fo (q_rf tab cc M scr L n) k1 s1 pc1 lv rest oo) = some os := hs
            rw [q_fc_eq, q_fc_eq, q_fc_eq] at hs
            refine ⟨av, rest, x3, ?_, k1, Nat.le_of_ble_eq_true k2, Nat.le_of_ble_eq_true k3, Nat.le_of_ble_eq_true k4, hcall _ _ _ _ _ hc _ fun o ho => ?_⟩
            · rw [x1, q_beq]
              by_cases h0 : q_mK (tab w) = 0 <;> simp [h0]
            · obtain ⟨os', h1, h2⟩ := q_fo_in hs o ho
              exact ih _ _ _ _ _ _ _ os' h1 P (fun p hp => hP p (h2 p hp))
      · refine Or.inr (Or.inr ?_)
        cases hst : q_step (q_mc M) (q_ms M) scr L (q_mL M) (op, p, v, a, b, w, t) env h k sl lv stk with
        | none => rw [hst] at hs; cases hs
        | some nx =>
          rw [hst] at hs
          refine ⟨nx, rfl, fun f hf => ?_⟩
          obtain ⟨os', h1, h2⟩ := q_fr_in hs f hf
          exact ih _ _ _ _ _ _ _ os' h1 P (fun p hp => hP p (h2 p hp))
theorem q_cM_ok {tab : Nat → qM} {fuel : Nat} : ∀ (d id : Nat) (env : qE) (h : qH) (av : List qV) (os : List qO), q_cM tab fuel d id env h av = some os → ∀ P : qO → Prop, (∀ o ∈ os, P o) → q_GM tab d id env h av P
  | 0, _, _, _, _, _, h, _, _ => by cases h
  | d + 1, id, env, h, av, os, hs, P, hP => by
    have hs : (bif Nat.ble (av.map q_cat).sum (q_mL (tab id)) then q_nrm (q_args 0 av) fun lv => q_rf tab (q_cM tab fuel d) (tab id) false 0 fuel env h 0 0 0 lv [] else none) = some os := hs
    obtain ⟨h1, hs⟩ := q_bt hs
    rw [q_nrm_eq] at hs
    exact ⟨Nat.le_of_ble_eq_true h1, fuel, q_rf_ok (fun id env h av os hs P hP => q_cM_ok d id env h av os hs P hP) fuel _ _ _ _ _ _ _ os hs P hP⟩
-- straight on
noncomputable def q_a1 (tab : Nat → qM) (cc : q_ccall) (M : qM) (scr : Bool) (L : Nat) (env : qE) (h : qH) (k sl pc : Nat) (lv : qL) (stk : List qV) : Option (List qF) :=
  match (q_mI M).get pc with
  | (op, p, v, a, b, w, t) =>
    bif Nat.beq p pc && !(Nat.beq op 24) then
      bif Nat.beq op 23 then
        (match q_spt (bif Nat.beq (q_mK (tab w)) 0 then q_mA (tab w) else q_mA (tab w) + 1) stk [] with
        | none => none
        | some (av, rest) =>
          bif q_rcv (q_mK (tab w)) (q_mC (tab w)) h av && (Nat.ble (rest.map q_cat).sum 8 && (Nat.ble (k + q_mc (tab w)) (q_mc M) && Nat.ble (sl + q_ms (tab w)) (q_ms M))) then
            (match cc w env h av with
            | none => none
            | some os => q_fc (k + q_mc (tab w)) fun k1 => q_fc (sl + q_ms (tab w)) fun s1 => q_fc (pc + 3) fun pc1 => some (os.map fun o => (o.1, o.2.1, k1, s1, pc1, lv, o.2.2.toList ++ rest)))
          else none)
      else q_step (q_mc M) (q_ms M) scr L (q_mL M) (op, p, v, a, b, w, t) env h k sl lv stk
    else none
theorem q_a1_ok {tab : Nat → qM} {cc : q_ccall} {call : q_call} {M : qM} {scr : Bool} {L : Nat} (hcall : ∀ id env h av os, cc id env h av = some os → ∀ P : qO → Prop, (∀ o ∈ os, P o) → call id env h av P) {env : qE} {h : qH} {k sl pc : Nat} {lv : qL} {stk : List qV} {nx : List qF} (hs : q_a1 tab cc M scr L env h k sl pc lv stk = some nx) {P : qO → Prop} {n : Nat} (hn : ∀ f ∈ nx, q_GF tab call M scr L n f P) : q_GF tab call M scr L (n + 1) (env, h, k, sl, pc, lv, stk) P := by
  unfold q_a1 at hs
  refine Or.inl ?_
  show q_pc ((q_mI M).get pc) = pc ∧ _
  generalize he : (q_mI M).get pc = e at hs
  obtain ⟨op, p, v, a, b, w, t⟩ := e
  obtain ⟨hp, hs⟩ := q_bt (b := Nat.beq p pc && !(Nat.beq op 24)) hs
  rw [Bool.and_eq_true] at hp
  refine ⟨Nat.eq_of_beq_eq_true hp.1, Or.inr ?_⟩
  rcases q_bf hs with ⟨h23, hs⟩ | ⟨h23, hs⟩
  · refine Or.inl ⟨Nat.eq_of_beq_eq_true h23, ?_⟩
    cases hsp : q_spt (bif Nat.beq (q_mK (tab w)) 0 then q_mA (tab w) else q_mA (tab w) + 1) stk [] with
    | none => rw [hsp] at hs; cases hs
    | some ar =>
      obtain ⟨av, rest⟩ := ar
      rw [hsp] at hs
      obtain ⟨xs, x1, x2, x3⟩ := q_spt_ok hsp
      rw [List.append_nil] at x2
      subst x2
      obtain ⟨hk, hs⟩ := q_bt hs
      simp only [Bool.and_eq_true] at hk
      obtain ⟨k1, k2, k3, k4⟩ := hk
      cases hc : cc w env h av with
      | none => rw [hc] at hs; cases hs
      | some oo =>
        rw [hc] at hs
        have hs : (q_fc (k + q_mc (tab w)) fun k1 => q_fc (sl + q_ms (tab w)) fun s1 => q_fc (pc + 3) fun pc1 => some (oo.map fun o => (o.1, o.2.1, k1, s1, pc1, lv, o.2.2.toList ++ rest))) = some nx := hs
        rw [q_fc_eq, q_fc_eq, q_fc_eq] at hs
        cases hs
        refine ⟨av, rest, x3, ?_, k1, Nat.le_of_ble_eq_true k2, Nat.le_of_ble_eq_true k3, Nat.le_of_ble_eq_true k4, hcall _ _ _ _ _ hc _ fun o ho => ?_⟩
        · rw [x1, q_beq]
          by_cases h0 : q_mK (tab w) = 0 <;> simp [h0]
        · exact hn _ (List.mem_map.mpr ⟨o, ho, rfl⟩)
  · refine Or.inr ?_
    exact ⟨nx, hs, hn⟩
noncomputable def q_adv (tab : Nat → qM) (cc : q_ccall) (M : qM) (scr : Bool) (L stop : Nat) (n : Nat) : qE → qH → Nat → Nat → Nat → qL → List qV → Option qF :=
  Nat.rec (motive := fun _ => qE → qH → Nat → Nat → Nat → qL → List qV → Option qF) (fun _ _ _ _ _ _ _ => none)
    (fun _ ih env h k sl pc lv stk => bif Nat.beq pc stop then some (env, h, k, sl, pc, lv, stk) else (match q_a1 tab cc M scr L env h k sl pc lv stk with
      | some [(env, h, k, sl, pc, lv, stk)] => ih env h k sl pc lv stk
      | _ => none)) n
theorem q_adv_ok {tab : Nat → qM} {cc : q_ccall} {call : q_call} {M : qM} {scr : Bool} {L stop : Nat} (hcall : ∀ id env h av os, cc id env h av = some os → ∀ P : qO → Prop, (∀ o ∈ os, P o) → call id env h av P) {fr' : qF} {P : qO → Prop} {n' : Nat} (hG : q_GF tab call M scr L n' fr' P) :
    ∀ (n : Nat) (env : qE) (h : qH) (k sl pc : Nat) (lv : qL) (stk : List qV), q_adv tab cc M scr L stop n env h k sl pc lv stk = some fr' → ∃ m, q_GF tab call M scr L m (env, h, k, sl, pc, lv, stk) P := by
  intro n
  induction n with
  | zero => intro env h k sl pc lv stk hs; cases hs
  | succ n ih =>
    intro env h k sl pc lv stk hs
    have hs : (bif Nat.beq pc stop then some (env, h, k, sl, pc, lv, stk) else (match q_a1 tab cc M scr L env h k sl pc lv stk with
      | some [(env, h, k, sl, pc, lv, stk)] => q_adv tab cc M scr L stop n env h k sl pc lv stk
      | _ => none)) = some fr' := hs
    rcases q_bf hs with ⟨-, hs⟩ | ⟨-, hs⟩
    · cases hs
      exact ⟨n', hG⟩
    · cases ha : q_a1 tab cc M scr L env h k sl pc lv stk with
      | none => rw [ha] at hs; cases hs
      | some nx =>
        rw [ha] at hs
        rcases nx with _ | ⟨⟨env2, h2, k2, sl2, pc2, lv2, stk2⟩, _ | ⟨g, nx⟩⟩
        · cases hs
        · obtain ⟨m, hm⟩ := ih _ _ _ _ _ _ _ hs
          exact ⟨m + 1, q_a1_ok hcall ha (fun f hf => by rw [List.mem_singleton.mp hf]; exact hm)⟩
        · cases hs
end
section
-- 20.sym: the same machine without the forcing of numbers: for values that are not known
abbrev q_fcS {α : Type} (n : Nat) (k : Nat → α) : α := k n
abbrev q_lsS {β : Type} (lv : qL) (i : Nat) (x : qV) (k : qL → β) : β := k (bif Nat.beq (q_cat x) 2 then q_ls2 lv i x else q_ls1 lv i x)
section
variable (mc ms : Nat) (scr : Bool) (L : Nat)
noncomputable def q_goS (env : qE) (h : qH) (k sl pc : Nat) (lv : qL) (stk : List qV) : Option (List qF) := q_fcS pc fun pc => some [(env, h, k, sl, pc, lv, stk)]
noncomputable def q_gvS (env : qE) (h : qH) (k sl pc : Nat) (lv : qL) (t n : Nat) (stk : List qV) : Option (List qF) := q_fcS n fun n => q_goS env h k sl pc lv ((t, n) :: stk)
noncomputable def q_s0S (e : qN) (env : qE) (h : qH) (k sl : Nat) (lv : qL) (stk : List qV) : Option (List qF) :=
  q_gvS env h k sl (q_pc e + (q_ins0 (q_v e) (q_a e) (q_b e)).2) lv (q_s0v (q_v e) (q_a e) (q_b e)).1 (q_s0v (q_v e) (q_a e) (q_b e)).2 stk
noncomputable def q_s1S (e : qN) (env : qE) (h : qH) (k sl : Nat) (lv : qL) (stk : List qV) : Option (List qF) := match q_lg lv (q_a e) with
  | none => none
  | some x => bif Nat.beq (q_knd x) (q_kv (q_v e)) then q_goS env h k sl (q_pc e + (q_ins1 (q_v e) (q_a e)).2) lv (x :: stk) else none
noncomputable def q_s2S (maxL : Nat) (e : qN) (env : qE) (h : qH) (k sl : Nat) (lv : qL) (stk : List qV) : Option (List qF) := match stk with
  | [] => none
  | x :: stk => bif Nat.beq (q_knd x) (q_kv (q_v e)) && Nat.blt (q_a e + 1) (maxL + 2 - q_cat x) then q_lsS lv (q_a e) x fun lv => q_goS env h k sl (q_pc e + (q_ins2 (q_v e) (q_a e)).2) lv stk else none
noncomputable def q_s3S (maxL : Nat) (e : qN) (env : qE) (h : qH) (k sl : Nat) (lv : qL) (stk : List qV) : Option (List qF) := match q_lg lv (q_a e) with
  | none => none
  | some x => bif Nat.beq (q_knd x) 0 && Nat.blt (q_a e) maxL then
      (bif Nat.beq x.1 0 then q_fcS (qNn (qI x.2 + Int32.ofInt (q_sgn (q_b e) (q_v e)))) fun n => q_lsS lv (q_a e) (0, n) fun lv => q_goS env h k sl (q_pc e + 3) lv stk
        else q_lsS lv (q_a e) (2, 0) fun lv => q_goS env h k sl (q_pc e + 3) lv stk) else none
noncomputable def q_s4S (e : qN) (env : qE) (h : qH) (k sl : Nat) (lv : qL) (stk : List qV) : Option (List qF) := match stk with
  | y :: x :: stk =>
    bif Nat.beq (q_knd x) 0 && Nat.beq (q_knd y) 0 then
      bif Nat.beq x.1 0 && Nat.beq y.1 0 then
        (bif Nat.ble 8 (q_v e) && decide (qI y.2 = 0) then none else q_gvS env h k sl (q_pc e + 1) lv 0 (qNn (q_f4 (q_v e) (qI x.2) (qI y.2))) stk)
      else bif q_isPt env y then some ((q_spl env y).map fun q => (q.1, h, k, sl, q_pc e, lv, q.2 :: x :: stk))
      else bif q_isPt env x then some ((q_spl env x).map fun q => (q.1, h, k, sl, q_pc e, lv, y :: q.2 :: stk))
      else bif Nat.ble (q_v e) 1 && Nat.beq y.1 0 && (Nat.beq x.1 1 && Nat.blt x.2 16 || Nat.beq x.1 10) then q_gvS env h k sl (q_pc e + 1) lv 10 (x.2 % 16 + 16 * qNn (q_f4 (q_v e) (qI (x.2 / 16)) (qI y.2))) stk
      else bif Nat.ble 8 (q_v e) && !(Nat.beq y.1 0 && !decide (qI y.2 = 0)) then none else q_goS env h k sl (q_pc e + 1) lv ((2, 0) :: stk)
    else none
  | _ => none
noncomputable def q_s5S (e : qN) (env : qE) (h : qH) (k sl : Nat) (lv : qL) (stk : List qV) : Option (List qF) := match stk with
  | y :: x :: stk =>
    bif Nat.ble 7 (q_v e) then (bif Nat.beq (q_knd x) 1 && Nat.beq (q_knd y) 0 then q_goS env h k sl (q_pc e + 1) lv ((5, 0) :: stk) else none)
    else bif Nat.beq (q_knd x) 1 && Nat.beq (q_knd y) 1 then
      bif Nat.beq x.1 3 && Nat.beq y.1 3 then
        (bif Nat.ble 5 (q_v e) && decide (qJ y.2 = 0) then none else q_gvS env h k sl (q_pc e + 1) lv 3 (qMn (q_f5 (q_v e) (qJ x.2) (qJ y.2))) stk)
      else bif Nat.ble 5 (q_v e) then none else q_goS env h k sl (q_pc e + 1) lv ((5, 0) :: stk)
    else none
  | _ => none
noncomputable def q_s6S (e : qN) (env : qE) (h : qH) (k sl : Nat) (lv : qL) (stk : List qV) : Option (List qF) := match stk with
  | x :: stk => bif Nat.beq (q_knd x) (bif Nat.beq (q_v e) 1 then 1 else 0) then q_gvS env h k sl (q_pc e + 1) lv (q_s6v (q_v e) x).1 (q_s6v (q_v e) x).2 stk else none
  | _ => none
noncomputable def q_s7S (e : qN) (env : qE) (h : qH) (k sl : Nat) (lv : qL) (stk : List qV) : Option (List qF) := match stk with
  | y :: x :: stk => bif Nat.beq (q_knd x) 1 && Nat.beq (q_knd y) 1 then some ((q_lc env x y).map fun q => q_fcS q.1 fun n => (q.2, h, k, sl, q_pc e + 1, lv, (0, n) :: stk)) else none
  | _ => none
noncomputable def q_s8S (e : qN) (env : qE) (h : qH) (k sl : Nat) (lv : qL) (stk : List qV) : Option (List qF) := match stk with
  | x :: stk => bif Nat.beq (q_knd x) 0 then some ((q_cmp (q_v e) env x (0, 0)).map fun q => q_fcS (bif q.1 then q_a e else q_pc e + 3) fun pc => (q.2, h, k, sl, pc, lv, stk)) else none
  | _ => none
noncomputable def q_s9S (e : qN) (env : qE) (h : qH) (k sl : Nat) (lv : qL) (stk : List qV) : Option (List qF) := match stk with
  | y :: x :: stk => bif Nat.beq x.1 1 && Nat.beq y.1 1 && q_isPt env y then some ((q_spl env y).map fun q => (q.1, h, k, sl, q_pc e, lv, q.2 :: x :: stk)) else bif Nat.beq x.1 1 && Nat.beq y.1 1 && q_isPt env x then some ((q_spl env x).map fun q => (q.1, h, k, sl, q_pc e, lv, y :: q.2 :: stk)) else bif Nat.beq (q_knd x) 0 && Nat.beq (q_knd y) 0 then some ((q_cmp (q_v e) env x y).map fun q => q_fcS (bif q.1 then q_a e else q_pc e + 3) fun pc => (q.2, h, k, sl, pc, lv, stk)) else none
  | _ => none
noncomputable def q_s11S (e : qN) (env : qE) (h : qH) (k sl : Nat) (lv : qL) (stk : List qV) : Option (List qF) := match stk with
  | x :: stk => bif Nat.beq (q_knd x) 2 then q_goS env h k sl (bif Nat.beq x.1 7 then q_a e else q_pc e + 3) lv stk else none
  | _ => none
noncomputable def q_s27S (e : qN) (env : qE) (h : qH) (k sl : Nat) (lv : qL) (stk : List qV) : Option (List qF) := match stk with
  | x :: stk => bif Nat.beq (q_knd x) 2 then q_goS env h k sl (bif Nat.beq x.1 7 then q_pc e + 3 else q_a e) lv stk else none
  | _ => none
noncomputable def q_s12S (e : qN) (env : qE) (h : qH) (k sl : Nat) (lv : qL) (stk : List qV) : Option (List qF) := match stk with
  | x :: stk =>
    bif Nat.beq x.1 0 then q_goS env h k sl (bif Nat.blt (qI x.2).toNatClampNeg (q_t e).length && decide (0 ≤ (qI x.2).toInt) then (q_t e).getD (qI x.2).toNatClampNeg 0 else q_a e) lv stk
    else bif Nat.beq x.1 1 then some ((q_swd env x.2 (q_a e) (q_t e) ++ q_sw env x.2 (q_t e) 0).map fun q => (q.1, h, k, sl, q.2, lv, stk))
    else bif Nat.beq x.1 2 then some ((env, h, k, sl, q_a e, lv, stk) :: (q_t e).map fun t => (env, h, k, sl, t, lv, stk))
    else none
  | _ => none
noncomputable def q_s13S (e : qN) (env : qE) (h : qH) (k sl : Nat) (lv : qL) (stk : List qV) : Option (List qF) := match q_v e, stk with
  | 0, x :: stk => bif Nat.beq (q_cat x) 1 then q_goS env h k sl (q_pc e + 1) lv (x :: x :: stk) else none
  | 1, x :: stk => bif Nat.beq (q_cat x) 2 then q_goS env h k sl (q_pc e + 1) lv (x :: x :: stk) else (match stk with
    | y :: stk => bif Nat.beq (q_cat y) 1 then q_goS env h k sl (q_pc e + 1) lv (x :: y :: x :: y :: stk) else none
    | _ => none)
  | 2, x :: stk => bif Nat.beq (q_cat x) 1 then q_goS env h k sl (q_pc e + 1) lv stk else none
  | _, _ => none
noncomputable def q_s14S (e : qN) (env : qE) (h : qH) (k sl : Nat) (lv : qL) (stk : List qV) : Option (List qF) := match stk with
  | x :: stk => bif Nat.beq x.1 6 && Nat.blt x.2 h.2 && Nat.beq (h.1.get x.2).1 (q_v e) && Nat.blt (q_b e) (h.1.get x.2).2.1 then q_goS env h k sl (q_pc e + 3) lv (((h.1.get x.2).2.2.get (q_b e)) :: stk) else none
  | _ => none
noncomputable def q_ghS (env : qE) (h : qH) (k sl pc : Nat) (lv : qL) (stk : List qV) : Option (List qF) := q_goS env h k sl pc lv stk
noncomputable def q_s15S (e : qN) (env : qE) (h : qH) (k sl : Nat) (lv : qL) (stk : List qV) : Option (List qF) := match stk with
  | y :: x :: stk => bif Nat.beq x.1 6 && Nat.blt x.2 h.2 && Nat.beq (h.1.get x.2).1 (q_v e) && Nat.blt (q_b e) (h.1.get x.2).2.1 && q_fit ((q_t e).getD 0 9) y && Nat.blt 0 (q_t e).length then q_ghS env (q_put h x.2 (q_b e) y) k sl (q_pc e + 3) lv stk else none
  | _ => none
noncomputable def q_s19S (e : qN) (env : qE) (h : qH) (k sl : Nat) (lv : qL) (stk : List qV) : Option (List qF) := match stk with
  | x :: stk => bif Nat.beq x.1 6 && Nat.blt x.2 h.2 && Nat.ble 100 (h.1.get x.2).1 then q_goS env h k sl (q_pc e + 1) lv ((0, (h.1.get x.2).2.1) :: stk)
      else bif scr && Nat.beq x.1 9 then q_goS env h k sl (q_pc e + 1) lv ((0, L) :: stk) else none
  | _ => none
noncomputable def q_s20S (e : qN) (env : qE) (h : qH) (k sl : Nat) (lv : qL) (stk : List qV) : Option (List qF) := match stk with
  | y :: x :: stk =>
    bif Nat.beq y.1 0 then
      bif Nat.beq x.1 6 && Nat.blt x.2 h.2 && q_akd (q_v e) (h.1.get x.2).1 && Nat.blt y.2 (h.1.get x.2).2.1 && Nat.blt y.2 2147483648 then q_goS env h k sl (q_pc e + 1) lv (((h.1.get x.2).2.2.get y.2) :: stk)
      else bif scr && Nat.beq x.1 9 && Nat.blt y.2 L && Nat.blt y.2 2147483648 && Nat.beq (q_v e) 0 then q_goS env h k sl (q_pc e + 1) lv ((1, y.2) :: stk) else none
    else bif q_isPt env y then some ((q_spl env y).map fun q => (q.1, h, k, sl, q_pc e, lv, q.2 :: x :: stk))
    else none
  | _ => none
noncomputable def q_s21S (e : qN) (env : qE) (h : qH) (k sl : Nat) (lv : qL) (stk : List qV) : Option (List qF) := match stk with
  | z :: y :: x :: stk =>
    bif Nat.beq y.1 0 then
      bif Nat.beq x.1 6 && Nat.blt x.2 h.2 && Nat.blt y.2 (h.1.get x.2).2.1 && Nat.blt y.2 2147483648 then
        (bif Nat.ble 3 (q_v e) then (bif Nat.ble 200 (h.1.get x.2).1 && Nat.blt (h.1.get x.2).1 300 && Nat.beq z.1 6 && Nat.blt z.2 h.2 && Nat.beq (200 + (h.1.get z.2).1) (h.1.get x.2).1 then q_ghS env (q_put h x.2 y.2 z) k sl (q_pc e + 1) lv stk else none)
          else match q_kep (q_v e) (h.1.get x.2).1 z with
            | none => none
            | some z' => q_fcS z'.2 fun n => q_ghS env (q_put h x.2 y.2 (z'.1, n)) k sl (q_pc e + 1) lv stk)
      else none
    else bif q_isPt env y then some ((q_spl env y).map fun q => (q.1, h, k, sl, q_pc e, lv, z :: q.2 :: x :: stk))
    else none
  | _ => none
noncomputable def q_s25S (e : qN) (env : qE) (h : qH) (k sl : Nat) (lv : qL) (stk : List qV) : Option (List qF) := match stk with
  | x :: stk => bif Nat.beq x.1 6 && Nat.ble (stk.map q_cat).sum 8 then q_goS env h k sl (q_pc e + 3) lv stk else none
  | _ => none
noncomputable def q_s26S (e : qN) (env : qE) (h : qH) (k sl : Nat) (lv : qL) (stk : List qV) : Option (List qF) := match stk with
  | n :: dp :: y :: sp :: x :: stk =>
    bif Nat.beq n.1 0 && Nat.beq dp.1 0 && Nat.beq sp.1 0 && Nat.beq x.1 6 && Nat.beq y.1 6 && Nat.blt x.2 h.2 && Nat.blt y.2 h.2 && Nat.beq (h.1.get x.2).1 (h.1.get y.2).1 && (Nat.beq (h.1.get x.2).1 100 || Nat.beq (h.1.get x.2).1 103) && Nat.ble (sp.2 + n.2) (h.1.get x.2).2.1 && Nat.ble (dp.2 + n.2) (h.1.get y.2).2.1 && Nat.blt sp.2 2147483648 && Nat.blt dp.2 2147483648 && Nat.blt n.2 2147483648 && Nat.ble (stk.map q_cat).sum 8 then
      q_ghS env (q_ts ((h.1.get y.2).1, (h.1.get y.2).2.1, bif Nat.beq sp.2 0 && Nat.beq dp.2 0 && Nat.beq n.2 (h.1.get y.2).2.1 then (h.1.get x.2).2.2 else q_cpy (h.1.get x.2).2.2 (h.1.get y.2).2.2 sp.2 dp.2 n.2 (h.1.get y.2).2.1) y.2 h.1 0 1024, h.2) k sl (q_pc e + 3) lv stk else none
  | _ => none
noncomputable def q_stepS (maxL : Nat) (e : qN) (env : qE) (h : qH) (k sl : Nat) (lv : qL) (stk : List qV) : Option (List qF) := match e.1 with
  | 0 => q_s0S e env h k sl lv stk
  | 1 => q_s1S e env h k sl lv stk
  | 2 => q_s2S maxL e env h k sl lv stk
  | 3 => q_s3S maxL e env h k sl lv stk
  | 4 => q_s4S e env h k sl lv stk
  | 5 => q_s5S e env h k sl lv stk
  | 6 => q_s6S e env h k sl lv stk
  | 7 => q_s7S e env h k sl lv stk
  | 8 => q_s8S e env h k sl lv stk
  | 9 => q_s9S e env h k sl lv stk
  | 10 => q_goS env h k sl (q_a e) lv stk
  | 11 => q_s11S e env h k sl lv stk
  | 12 => q_s12S e env h k sl lv stk
  | 13 => q_s13S e env h k sl lv stk
  | 14 => q_s14S e env h k sl lv stk
  | 15 => q_s15S e env h k sl lv stk
  | 16 => q_s16 mc ms e env h k sl lv stk
  | 17 => q_s17 mc ms e env h k sl lv stk
  | 18 => q_s18 mc ms e env h k sl lv stk
  | 19 => q_s19S scr L e env h k sl lv stk
  | 20 => q_s20S scr L e env h k sl lv stk
  | 21 => q_s21S e env h k sl lv stk
  | 22 => q_s22 mc ms e env h k sl lv stk
  | 25 => q_s25S e env h k sl lv stk
  | 26 => q_s26S e env h k sl lv stk
  | 27 => q_s27S e env h k sl lv stk
  | _ => none
end
theorem q_go_S {env : qE} {h : qH} {k sl pc : Nat} {lv : qL} {stk : List qV} : q_go env h k sl pc lv stk = q_goS env h k sl pc lv stk := by
  unfold q_go q_goS
  rw [q_fc_eq]
theorem q_gv_S {env : qE} {h : qH} {k sl pc t n : Nat} {lv : qL} {stk : List qV} : q_gv env h k sl pc lv t n stk = q_gvS env h k sl pc lv t n stk := by
  unfold q_gv q_gvS
  rw [q_fc_eq, q_go_S]
theorem q_gh_S {env : qE} {h : qH} {k sl pc : Nat} {lv : qL} {stk : List qV} : q_gh env h k sl pc lv stk = q_ghS env h k sl pc lv stk := by
  unfold q_gh q_ghS
  rw [← q_go_S]
  obtain ⟨t, n⟩ := h
  cases t <;> rfl
theorem q_ls_S {β : Type} {lv : qL} {i : Nat} {x : qV} {k : qL → β} : q_ls lv i x k = q_lsS lv i x k := by
  unfold q_ls
  rw [q_nrm_eq]

theorem q_s0_S {e : qN} {env : qE} {h : qH} {k sl : Nat} {lv : qL} {stk : List qV} : q_s0 e env h k sl lv stk = q_s0S e env h k sl lv stk := by
  unfold q_s0 q_s0S
  (simp only [q_fc_eq, q_go_S, q_gv_S, q_gh_S, q_ls_S]) <;> rfl

theorem q_s1_S {e : qN} {env : qE} {h : qH} {k sl : Nat} {lv : qL} {stk : List qV} : q_s1 e env h k sl lv stk = q_s1S e env h k sl lv stk := by
  unfold q_s1 q_s1S
  (simp only [q_fc_eq, q_go_S, q_gv_S, q_gh_S, q_ls_S]) <;> rfl

theorem q_s2_S {maxL : Nat} {e : qN} {env : qE} {h : qH} {k sl : Nat} {lv : qL} {stk : List qV} : q_s2 maxL e env h k sl lv stk = q_s2S maxL e env h k sl lv stk := by
  unfold q_s2 q_s2S
  (simp only [q_fc_eq, q_go_S, q_gv_S, q_gh_S, q_ls_S]) <;> rfl

theorem q_s3_S {maxL : Nat} {e : qN} {env : qE} {h : qH} {k sl : Nat} {lv : qL} {stk : List qV} : q_s3 maxL e env h k sl lv stk = q_s3S maxL e env h k sl lv stk := by
  unfold q_s3 q_s3S
  (simp only [q_fc_eq, q_go_S, q_gv_S, q_gh_S, q_ls_S]) <;> rfl

theorem q_s4_S {e : qN} {env : qE} {h : qH} {k sl : Nat} {lv : qL} {stk : List qV} : q_s4 e env h k sl lv stk = q_s4S e env h k sl lv stk := by
  unfold q_s4 q_s4S
  (simp only [q_fc_eq, q_go_S, q_gv_S, q_gh_S, q_ls_S]) <;> rfl

theorem q_s5_S {e : qN} {env : qE} {h : qH} {k sl : Nat} {lv : qL} {stk : List qV} : q_s5 e env h k sl lv stk = q_s5S e env h k sl lv stk := by
  unfold q_s5 q_s5S
  (simp only [q_fc_eq, q_go_S, q_gv_S, q_gh_S, q_ls_S]) <;> rfl

theorem q_s6_S {e : qN} {env : qE} {h : qH} {k sl : Nat} {lv : qL} {stk : List qV} : q_s6 e env h k sl lv stk = q_s6S e env h k sl lv stk := by
  unfold q_s6 q_s6S
  (simp only [q_fc_eq, q_go_S, q_gv_S, q_gh_S, q_ls_S]) <;> rfl

theorem q_s7_S {e : qN} {env : qE} {h : qH} {k sl : Nat} {lv : qL} {stk : List qV} : q_s7 e env h k sl lv stk = q_s7S e env h k sl lv stk := by
  unfold q_s7 q_s7S
  (simp only [q_fc_eq, q_go_S, q_gv_S, q_gh_S, q_ls_S]) <;> rfl

theorem q_s8_S {e : qN} {env : qE} {h : qH} {k sl : Nat} {lv : qL} {stk : List qV} : q_s8 e env h k sl lv stk = q_s8S e env h k sl lv stk := by
  unfold q_s8 q_s8S
  (simp only [q_fc_eq, q_go_S, q_gv_S, q_gh_S, q_ls_S]) <;> rfl

theorem q_s9_S {e : qN} {env : qE} {h : qH} {k sl : Nat} {lv : qL} {stk : List qV} : q_s9 e env h k sl lv stk = q_s9S e env h k sl lv stk := by
  unfold q_s9 q_s9S
  (simp only [q_fc_eq, q_go_S, q_gv_S, q_gh_S, q_ls_S]) <;> rfl

theorem q_s11_S {e : qN} {env : qE} {h : qH} {k sl : Nat} {lv : qL} {stk : List qV} : q_s11 e env h k sl lv stk = q_s11S e env h k sl lv stk := by
  unfold q_s11 q_s11S
  (simp only [q_fc_eq, q_go_S, q_gv_S, q_gh_S, q_ls_S]) <;> rfl

theorem q_s27_S {e : qN} {env : qE} {h : qH} {k sl : Nat} {lv : qL} {stk : List qV} : q_s27 e env h k sl lv stk = q_s27S e env h k sl lv stk := by
  unfold q_s27 q_s27S
  (simp only [q_fc_eq, q_go_S, q_gv_S, q_gh_S, q_ls_S]) <;> rfl

theorem q_s12_S {e : qN} {env : qE} {h : qH} {k sl : Nat} {lv : qL} {stk : List qV} : q_s12 e env h k sl lv stk = q_s12S e env h k sl lv stk := by
  unfold q_s12 q_s12S
  (simp only [q_fc_eq, q_go_S, q_gv_S, q_gh_S, q_ls_S]) <;> rfl

theorem q_s13_S {e : qN} {env : qE} {h : qH} {k sl : Nat} {lv : qL} {stk : List qV} : q_s13 e env h k sl lv stk = q_s13S e env h k sl lv stk := by
  unfold q_s13 q_s13S
  (simp only [q_fc_eq, q_go_S, q_gv_S, q_gh_S, q_ls_S]) <;> rfl

theorem q_s14_S {e : qN} {env : qE} {h : qH} {k sl : Nat} {lv : qL} {stk : List qV} : q_s14 e env h k sl lv stk = q_s14S e env h k sl lv stk := by
  unfold q_s14 q_s14S
  (simp only [q_fc_eq, q_go_S, q_gv_S, q_gh_S, q_ls_S]) <;> rfl

theorem q_s15_S {e : qN} {env : qE} {h : qH} {k sl : Nat} {lv : qL} {stk : List qV} : q_s15 e env h k sl lv stk = q_s15S e env h k sl lv stk := by
  unfold q_s15 q_s15S
  (simp only [q_fc_eq, q_go_S, q_gv_S, q_gh_S, q_ls_S]) <;> rfl

theorem q_s19_S {scr : Bool} {L : Nat} {e : qN} {env : qE} {h : qH} {k sl : Nat} {lv : qL} {stk : List qV} : q_s19 scr L e env h k sl lv stk = q_s19S scr L e env h k sl lv stk := by
  unfold q_s19 q_s19S
  (simp only [q_fc_eq, q_go_S, q_gv_S, q_gh_S, q_ls_S]) <;> rfl

theorem q_s20_S {scr : Bool} {L : Nat} {e : qN} {env : qE} {h : qH} {k sl : Nat} {lv : qL} {stk : List qV} : q_s20 scr L e env h k sl lv stk = q_s20S scr L e env h k sl lv stk := by
  unfold q_s20 q_s20S
  (simp only [q_fc_eq, q_go_S, q_gv_S, q_gh_S, q_ls_S]) <;> rfl

theorem q_s21_S {e : qN} {env : qE} {h : qH} {k sl : Nat} {lv : qL} {stk : List qV} : q_s21 e env h k sl lv stk = q_s21S e env h k sl lv stk := by
  unfold q_s21 q_s21S
  (simp only [q_fc_eq, q_go_S, q_gv_S, q_gh_S, q_ls_S]) <;> rfl

theorem q_s25_S {e : qN} {env : qE} {h : qH} {k sl : Nat} {lv : qL} {stk : List qV} : q_s25 e env h k sl lv stk = q_s25S e env h k sl lv stk := by
  unfold q_s25 q_s25S
  (simp only [q_fc_eq, q_go_S, q_gv_S, q_gh_S, q_ls_S]) <;> rfl

theorem q_s26_S {e : qN} {env : qE} {h : qH} {k sl : Nat} {lv : qL} {stk : List qV} : q_s26 e env h k sl lv stk = q_s26S e env h k sl lv stk := by
  unfold q_s26 q_s26S
  (simp only [q_fc_eq, q_go_S, q_gv_S, q_gh_S, q_ls_S]) <;> rfl

theorem q_step_S {mc ms : Nat} {scr : Bool} {L maxL : Nat} {e : qN} {env : qE} {h : qH} {k sl : Nat} {lv : qL} {stk : List qV} : q_step mc ms scr L maxL e env h k sl lv stk = q_stepS mc ms scr L maxL e env h k sl lv stk := by
  unfold q_step q_stepS
  (simp only [q_s0_S, q_s1_S, q_s2_S, q_s3_S, q_s4_S, q_s5_S, q_s6_S, q_s7_S, q_s8_S, q_s9_S, q_s11_S, q_s27_S, q_s12_S, q_s13_S, q_s14_S, q_s15_S, q_s19_S, q_s20_S, q_s21_S, q_s25_S, q_s26_S, q_go_S]) <;> rfl

/-- one more instruction, nothing forced -/
noncomputable def q_a1S (tab : Nat → qM) (M : qM) (scr : Bool) (L : Nat) (env : qE) (h : qH) (k sl pc : Nat) (lv : qL) (stk : List qV) : Option (List qF) :=
  match (q_mI M).get pc with
  | (op, p, v, a, b, w, t) =>
    bif Nat.beq p pc && !(Nat.beq op 24) && !(Nat.beq op 23) then q_stepS (q_mc M) (q_ms M) scr L (q_mL M) (op, p, v, a, b, w, t) env h k sl lv stk else none
/-- some bound does -/
def q_GE (tab : Nat → qM) (call : q_call) (M : qM) (scr : Bool) (L : Nat) (fr : qF) (P : qO → Prop) : Prop := ∃ n, q_GF tab call M scr L n fr P
section
variable {tab : Nat → qM} {call : q_call} {M : qM} {scr : Bool} {L : Nat} {env : qE} {h : qH} {k sl pc : Nat} {lv : qL} {stk : List qV} {P : qO → Prop}
theorem q_x1 {fr : qF} (hs : q_a1S tab M scr L env h k sl pc lv stk = some [fr]) (hn : q_GE tab call M scr L fr P) : q_GE tab call M scr L (env, h, k, sl, pc, lv, stk) P := by
  obtain ⟨n, hn⟩ := hn
  refine ⟨n + 1, Or.inl ?_⟩
  unfold q_a1S at hs
  show q_pc ((q_mI M).get pc) = pc ∧ _
  generalize he : (q_mI M).get pc = e at hs
  obtain ⟨op, p, v, a, b, w, t⟩ := e
  obtain ⟨hp, hs⟩ := q_bt (b := Nat.beq p pc && !(Nat.beq op 24) && !(Nat.beq op 23)) hs
  simp only [Bool.and_eq_true] at hp
  rw [← q_step_S] at hs
  exact ⟨Nat.eq_of_beq_eq_true hp.1.1, Or.inr (Or.inr ⟨[fr], hs, fun f hf => by rw [List.mem_singleton.mp hf]; exact hn⟩)⟩
/-- a run of such instructions -/
noncomputable def q_advS (tab : Nat → qM) (M : qM) (scr : Bool) (L : Nat) (n : Nat) : qE → qH → Nat → Nat → Nat → qL → List qV → Option qF :=
  Nat.rec (motive := fun _ => qE → qH → Nat → Nat → Nat → qL → List qV → Option qF) (fun env h k sl pc lv stk => some (env, h, k, sl, pc, lv, stk))
    (fun _ ih env h k sl pc lv stk => match q_a1S tab M scr L env h k sl pc lv stk with
      | some [(env, h, k, sl, pc, lv, stk)] => ih env h k sl pc lv stk
      | _ => none) n
theorem q_xs {fr : qF} (hn : q_GE tab call M scr L fr P) : ∀ (n : Nat) {env : qE} {h : qH} {k sl pc : Nat} {lv : qL} {stk : List qV}, q_advS tab M scr L n env h k sl pc lv stk = some fr → q_GE tab call M scr L (env, h, k, sl, pc, lv, stk) P
  | 0, env, h, k, sl, pc, lv, stk, hs => by
    have hs : some (env, h, k, sl, pc, lv, stk) = some fr := hs
    cases hs
    exact hn
  | n + 1, env, h, k, sl, pc, lv, stk, hs => by
    have hs : (match q_a1S tab M scr L env h k sl pc lv stk with
      | some [(env, h, k, sl, pc, lv, stk)] => q_advS tab M scr L n env h k sl pc lv stk
      | _ => none) = some fr := hs
    cases ha : q_a1S tab M scr L env h k sl pc lv stk with
    | none => rw [ha] at hs; cases hs
    | some nx =>
      rw [ha] at hs
      rcases nx with _ | ⟨⟨env2, h2, k2, sl2, pc2, lv2, stk2⟩, _ | ⟨g, nx⟩⟩
      · cases hs
      · exact q_x1 ha (q_xs hn n hs)
      · cases hs
/-- a call by what is known of it -/
theorem q_xc {e : qN} {av rest : List qV} {P' : qO → Prop} (hc : q_cMono call) (he : (q_mI M).get pc = e) (hpc : q_pc e = pc) (h23 : e.1 = 23) (hst : stk = av.reverse ++ rest) (hlen : av.length = (if q_mK (tab (q_w e)) = 0 then q_mA (tab (q_w e)) else q_mA (tab (q_w e)) + 1)) (hrcv : q_rcv (q_mK (tab (q_w e))) (q_mC (tab (q_w e))) h av = true) (h8 : (rest.map q_cat).sum ≤ 8) (c1 : k + q_mc (tab (q_w e)) ≤ q_mc M) (c2 : sl + q_ms (tab (q_w e)) ≤ q_ms M)
    (hcall : call (q_w e) env h av P') {n : Nat} (hn : ∀ o, P' o → q_GF tab call M scr L n (o.1, o.2.1, k + q_mc (tab (q_w e)), sl + q_ms (tab (q_w e)), pc + 3, lv, o.2.2.toList ++ rest) P) : q_GE tab call M scr L (env, h, k, sl, pc, lv, stk) P := by
  refine ⟨n + 1, Or.inl ?_⟩
  subst he
  exact ⟨hpc, Or.inr (Or.inl ⟨h23, av, rest, hst, hlen, hrcv, h8, c1, c2, hc _ _ _ _ _ _ hn hcall⟩)⟩
/-- a return -/
theorem q_xr {e : qN} {r : Option qV} (he : (q_mI M).get pc = e) (hpc : q_pc e = pc) (h24 : e.1 = 24) (hr : q_rvo (q_mT M) (q_v e) stk = some r) (c1 : k ≤ q_mc M) (c2 : sl ≤ q_ms M) (hP : P (env, h, r)) : q_GE tab call M scr L (env, h, k, sl, pc, lv, stk) P := by
  refine ⟨1, Or.inl ?_⟩
  subst he
  exact ⟨hpc, Or.inl ⟨h24, r, hr, c1, c2, hP⟩⟩
/-- another frame that says no more -/
theorem q_xv {fr f : qF} (hI : q_cov fr (fun g => g = f)) (hn : q_GE tab call M scr L f P) : q_GE tab call M scr L fr P := by
  obtain ⟨n, hn⟩ := hn
  exact ⟨n + 1, Or.inr ⟨fun g => g = f, hI, fun g hg => by rw [hg]; exact hn⟩⟩
end
end
