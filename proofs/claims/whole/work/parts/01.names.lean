-- ===== PART A: goes FIRST, ahead of the names: the tables' words, and 'selects' of the private methods out of them =====
/-- a private method of a class that the tables say can be made, by its rows of tables_1 -/
def lw_okq (q : MethodName × Nat) : Prop := (q.1.cls ≠ "java/lang/invoke/MethodHandle" ∧ q.1.cls ≠ "java/lang/invoke/VarHandle") ∧ Cond.instantiable q.1.cls q.2 ∈ tables_1 ∧ Cond.privateMethod q.1 ∈ tables_1 ∧ Cond.instanceMethod q.1 ∈ tables_1
theorem lw_p0 : lw_okq (⟨"SoupOrHorses", "shelfAt", "(I)LSoupOrHorses$Shelf;"⟩, 10) := ⟨⟨by decide +kernel, by decide +kernel⟩, List.mem_of_getElem? (i := 21) (by decide +kernel), List.mem_of_getElem? (i := 222) (by decide +kernel), List.mem_of_getElem? (i := 223) (by decide +kernel)⟩
theorem lw_p1 : lw_okq (⟨"SoupOrHorses", "refuse", "(I)I"⟩, 10) := ⟨⟨by decide +kernel, by decide +kernel⟩, List.mem_of_getElem? (i := 21) (by decide +kernel), List.mem_of_getElem? (i := 226) (by decide +kernel), List.mem_of_getElem? (i := 227) (by decide +kernel)⟩
theorem lw_p2 : lw_okq (⟨"SoupOrHorses$Shelf", "lowestBits", "(J)J"⟩, 3) := ⟨⟨by decide +kernel, by decide +kernel⟩, List.mem_of_getElem? (i := 95) (by decide +kernel), List.mem_of_getElem? (i := 268) (by decide +kernel), List.mem_of_getElem? (i := 269) (by decide +kernel)⟩
theorem lw_p3 : lw_okq (⟨"SoupOrHorses$Tape", "byteAt", "(I)I"⟩, 4) := ⟨⟨by decide +kernel, by decide +kernel⟩, List.mem_of_getElem? (i := 114) (by decide +kernel), List.mem_of_getElem? (i := 491) (by decide +kernel), List.mem_of_getElem? (i := 492) (by decide +kernel)⟩
theorem lw_p4 : lw_okq (⟨"SoupOrHorses", "takeHearing", "(IIZZ)I"⟩, 10) := ⟨⟨by decide +kernel, by decide +kernel⟩, List.mem_of_getElem? (i := 21) (by decide +kernel), List.mem_of_getElem? (i := 679) (by decide +kernel), List.mem_of_getElem? (i := 680) (by decide +kernel)⟩
theorem lw_p5 : lw_okq (⟨"SoupOrHorses$Hearing", "putNote", "(II)V"⟩, 3) := ⟨⟨by decide +kernel, by decide +kernel⟩, List.mem_of_getElem? (i := 136) (by decide +kernel), List.mem_of_getElem? (i := 699) (by decide +kernel), List.mem_of_getElem? (i := 700) (by decide +kernel)⟩
theorem lw_p6 : lw_okq (⟨"SoupOrHorses$Likeness", "findTooNear", "(LSoupOrHorses$Camp;I)V"⟩, 1) := ⟨⟨by decide +kernel, by decide +kernel⟩, List.mem_of_getElem? (i := 177) (by decide +kernel), List.mem_of_getElem? (i := 896) (by decide +kernel), List.mem_of_getElem? (i := 897) (by decide +kernel)⟩
theorem lw_p7 : lw_okq (⟨"SoupOrHorses$Likeness", "usesIfKept", "(LSoupOrHorses$Camp;I)I"⟩, 1) := ⟨⟨by decide +kernel, by decide +kernel⟩, List.mem_of_getElem? (i := 177) (by decide +kernel), List.mem_of_getElem? (i := 900) (by decide +kernel), List.mem_of_getElem? (i := 901) (by decide +kernel)⟩
theorem lw_p8 : lw_okq (⟨"SoupOrHorses$Crowd", "hearAll", "(LSoupOrHorses$Camp;LSoupOrHorses$Hearing;I)V"⟩, 5) := ⟨⟨by decide +kernel, by decide +kernel⟩, List.mem_of_getElem? (i := 155) (by decide +kernel), List.mem_of_getElem? (i := 913) (by decide +kernel), List.mem_of_getElem? (i := 914) (by decide +kernel)⟩
theorem lw_p9 : lw_okq (⟨"SoupOrHorses$Crowd", "doAll", "(LSoupOrHorses$Camp;I)V"⟩, 5) := ⟨⟨by decide +kernel, by decide +kernel⟩, List.mem_of_getElem? (i := 155) (by decide +kernel), List.mem_of_getElem? (i := 925) (by decide +kernel), List.mem_of_getElem? (i := 926) (by decide +kernel)⟩
theorem lw_p10 : lw_okq (⟨"SoupOrHorses$Crowd", "mostDone", "()I"⟩, 5) := ⟨⟨by decide +kernel, by decide +kernel⟩, List.mem_of_getElem? (i := 155) (by decide +kernel), List.mem_of_getElem? (i := 933) (by decide +kernel), List.mem_of_getElem? (i := 934) (by decide +kernel)⟩
theorem lw_p11 : lw_okq (⟨"SoupOrHorses$Crowd", "countDeed", "(I)V"⟩, 5) := ⟨⟨by decide +kernel, by decide +kernel⟩, List.mem_of_getElem? (i := 155) (by decide +kernel), List.mem_of_getElem? (i := 937) (by decide +kernel), List.mem_of_getElem? (i := 938) (by decide +kernel)⟩
theorem lw_p12 : lw_okq (⟨"SoupOrHorses$Camp", "countLearnedAhead", "(I)I"⟩, 14) := ⟨⟨by decide +kernel, by decide +kernel⟩, List.mem_of_getElem? (i := 29) (by decide +kernel), List.mem_of_getElem? (i := 992) (by decide +kernel), List.mem_of_getElem? (i := 993) (by decide +kernel)⟩
theorem lw_p13 : lw_okq (⟨"SoupOrHorses", "countFilledShelves", "()I"⟩, 10) := ⟨⟨by decide +kernel, by decide +kernel⟩, List.mem_of_getElem? (i := 21) (by decide +kernel), List.mem_of_getElem? (i := 1078) (by decide +kernel), List.mem_of_getElem? (i := 1079) (by decide +kernel)⟩
theorem lw_p14 : lw_okq (⟨"SoupOrHorsesModel", "refuse", "(I)I"⟩, 38) := ⟨⟨by decide +kernel, by decide +kernel⟩, List.mem_of_getElem? (i := 1087) (by decide +kernel), List.mem_of_getElem? (i := 1222) (by decide +kernel), List.mem_of_getElem? (i := 1223) (by decide +kernel)⟩
theorem lw_p15 : lw_okq (⟨"SoupOrHorsesModel", "becomesRow", "(III)V"⟩, 38) := ⟨⟨by decide +kernel, by decide +kernel⟩, List.mem_of_getElem? (i := 1087) (by decide +kernel), List.mem_of_getElem? (i := 1226) (by decide +kernel), List.mem_of_getElem? (i := 1227) (by decide +kernel)⟩
def lw_privs_1 : List (MethodName × Nat) := [(⟨"SoupOrHorses", "shelfAt", "(I)LSoupOrHorses$Shelf;"⟩, 10), (⟨"SoupOrHorses", "refuse", "(I)I"⟩, 10), (⟨"SoupOrHorses$Shelf", "lowestBits", "(J)J"⟩, 3), (⟨"SoupOrHorses$Tape", "byteAt", "(I)I"⟩, 4), (⟨"SoupOrHorses", "takeHearing", "(IIZZ)I"⟩, 10), (⟨"SoupOrHorses$Hearing", "putNote", "(II)V"⟩, 3), (⟨"SoupOrHorses$Likeness", "findTooNear", "(LSoupOrHorses$Camp;I)V"⟩, 1), (⟨"SoupOrHorses$Likeness", "usesIfKept", "(LSoupOrHorses$Camp;I)I"⟩, 1), (⟨"SoupOrHorses$Crowd", "hearAll", "(LSoupOrHorses$Camp;LSoupOrHorses$Hearing;I)V"⟩, 5), (⟨"SoupOrHorses$Crowd", "doAll", "(LSoupOrHorses$Camp;I)V"⟩, 5), (⟨"SoupOrHorses$Crowd", "mostDone", "()I"⟩, 5), (⟨"SoupOrHorses$Crowd", "countDeed", "(I)V"⟩, 5), (⟨"SoupOrHorses$Camp", "countLearnedAhead", "(I)I"⟩, 14), (⟨"SoupOrHorses", "countFilledShelves", "()I"⟩, 10), (⟨"SoupOrHorsesModel", "refuse", "(I)I"⟩, 38), (⟨"SoupOrHorsesModel", "becomesRow", "(III)V"⟩, 38)]
theorem lw_r1 : ∀ q ∈ lw_privs_1, lw_okq q := List.forall_mem_cons.mpr ⟨lw_p0, List.forall_mem_cons.mpr ⟨lw_p1, List.forall_mem_cons.mpr ⟨lw_p2, List.forall_mem_cons.mpr ⟨lw_p3, List.forall_mem_cons.mpr ⟨lw_p4, List.forall_mem_cons.mpr ⟨lw_p5, List.forall_mem_cons.mpr ⟨lw_p6, List.forall_mem_cons.mpr ⟨lw_p7, List.forall_mem_cons.mpr ⟨lw_p8, List.forall_mem_cons.mpr ⟨lw_p9, List.forall_mem_cons.mpr ⟨lw_p10, List.forall_mem_cons.mpr ⟨lw_p11, List.forall_mem_cons.mpr ⟨lw_p12, List.forall_mem_cons.mpr ⟨lw_p13, List.forall_mem_cons.mpr ⟨lw_p14, List.forall_mem_cons.mpr ⟨lw_p15, fun _ h => absurd h List.not_mem_nil⟩⟩⟩⟩⟩⟩⟩⟩⟩⟩⟩⟩⟩⟩⟩⟩
theorem lw_p16 : lw_okq (⟨"SoupOrHorsesModel", "noRow", "(I)I"⟩, 38) := ⟨⟨by decide +kernel, by decide +kernel⟩, List.mem_of_getElem? (i := 1087) (by decide +kernel), List.mem_of_getElem? (i := 1234) (by decide +kernel), List.mem_of_getElem? (i := 1235) (by decide +kernel)⟩
theorem lw_p17 : lw_okq (⟨"SoupOrHorsesModel", "isEar", "(I)Z"⟩, 38) := ⟨⟨by decide +kernel, by decide +kernel⟩, List.mem_of_getElem? (i := 1087) (by decide +kernel), List.mem_of_getElem? (i := 1257) (by decide +kernel), List.mem_of_getElem? (i := 1258) (by decide +kernel)⟩
theorem lw_p18 : lw_okq (⟨"SoupOrHorsesModel", "isEchoed", "(II)Z"⟩, 38) := ⟨⟨by decide +kernel, by decide +kernel⟩, List.mem_of_getElem? (i := 1087) (by decide +kernel), List.mem_of_getElem? (i := 1269) (by decide +kernel), List.mem_of_getElem? (i := 1270) (by decide +kernel)⟩
theorem lw_p19 : lw_okq (⟨"SoupOrHorsesModel", "isTorn", "(III)Z"⟩, 38) := ⟨⟨by decide +kernel, by decide +kernel⟩, List.mem_of_getElem? (i := 1087) (by decide +kernel), List.mem_of_getElem? (i := 1273) (by decide +kernel), List.mem_of_getElem? (i := 1274) (by decide +kernel)⟩
theorem lw_p20 : lw_okq (⟨"SoupOrHorsesModel", "addCall", "(III)V"⟩, 38) := ⟨⟨by decide +kernel, by decide +kernel⟩, List.mem_of_getElem? (i := 1087) (by decide +kernel), List.mem_of_getElem? (i := 1283) (by decide +kernel), List.mem_of_getElem? (i := 1284) (by decide +kernel)⟩
theorem lw_p21 : lw_okq (⟨"SoupOrHorsesModel", "addEar", "(II)V"⟩, 38) := ⟨⟨by decide +kernel, by decide +kernel⟩, List.mem_of_getElem? (i := 1087) (by decide +kernel), List.mem_of_getElem? (i := 1292) (by decide +kernel), List.mem_of_getElem? (i := 1293) (by decide +kernel)⟩
theorem lw_p22 : lw_okq (⟨"SoupOrHorsesModel", "addMan", "(II)V"⟩, 38) := ⟨⟨by decide +kernel, by decide +kernel⟩, List.mem_of_getElem? (i := 1087) (by decide +kernel), List.mem_of_getElem? (i := 1300) (by decide +kernel), List.mem_of_getElem? (i := 1301) (by decide +kernel)⟩
theorem lw_p23 : lw_okq (⟨"SoupOrHorsesModel", "isCall", "(I)Z"⟩, 38) := ⟨⟨by decide +kernel, by decide +kernel⟩, List.mem_of_getElem? (i := 1087) (by decide +kernel), List.mem_of_getElem? (i := 1308) (by decide +kernel), List.mem_of_getElem? (i := 1309) (by decide +kernel)⟩
theorem lw_p24 : lw_okq (⟨"SoupOrHorsesModel", "fresh", "()LSoupOrHorsesModel;"⟩, 38) := ⟨⟨by decide +kernel, by decide +kernel⟩, List.mem_of_getElem? (i := 1087) (by decide +kernel), List.mem_of_getElem? (i := 1331) (by decide +kernel), List.mem_of_getElem? (i := 1332) (by decide +kernel)⟩
theorem lw_p25 : lw_okq (⟨"SoupOrHorsesModel", "takeFrom", "(LSoupOrHorsesModel;)V"⟩, 38) := ⟨⟨by decide +kernel, by decide +kernel⟩, List.mem_of_getElem? (i := 1087) (by decide +kernel), List.mem_of_getElem? (i := 1337) (by decide +kernel), List.mem_of_getElem? (i := 1338) (by decide +kernel)⟩
theorem lw_p26 : lw_okq (⟨"SoupOrHorsesModel", "readAll", "()Z"⟩, 38) := ⟨⟨by decide +kernel, by decide +kernel⟩, List.mem_of_getElem? (i := 1087) (by decide +kernel), List.mem_of_getElem? (i := 1344) (by decide +kernel), List.mem_of_getElem? (i := 1345) (by decide +kernel)⟩
theorem lw_p27 : lw_okq (⟨"SoupOrHorsesModel", "token", "()V"⟩, 38) := ⟨⟨by decide +kernel, by decide +kernel⟩, List.mem_of_getElem? (i := 1087) (by decide +kernel), List.mem_of_getElem? (i := 1348) (by decide +kernel), List.mem_of_getElem? (i := 1349) (by decide +kernel)⟩
theorem lw_p28 : lw_okq (⟨"SoupOrHorsesModel", "statement", "()Z"⟩, 38) := ⟨⟨by decide +kernel, by decide +kernel⟩, List.mem_of_getElem? (i := 1087) (by decide +kernel), List.mem_of_getElem? (i := 1359) (by decide +kernel), List.mem_of_getElem? (i := 1360) (by decide +kernel)⟩
theorem lw_p29 : lw_okq (⟨"SoupOrHorsesModel", "isWord", "(Ljava/lang/String;)Z"⟩, 38) := ⟨⟨by decide +kernel, by decide +kernel⟩, List.mem_of_getElem? (i := 1087) (by decide +kernel), List.mem_of_getElem? (i := 1364) (by decide +kernel), List.mem_of_getElem? (i := 1365) (by decide +kernel)⟩
theorem lw_p30 : lw_okq (⟨"SoupOrHorsesModel", "callTold", "()Z"⟩, 38) := ⟨⟨by decide +kernel, by decide +kernel⟩, List.mem_of_getElem? (i := 1087) (by decide +kernel), List.mem_of_getElem? (i := 1370) (by decide +kernel), List.mem_of_getElem? (i := 1371) (by decide +kernel)⟩
theorem lw_p31 : lw_okq (⟨"SoupOrHorsesModel", "wrong", "()Z"⟩, 38) := ⟨⟨by decide +kernel, by decide +kernel⟩, List.mem_of_getElem? (i := 1087) (by decide +kernel), List.mem_of_getElem? (i := 1374) (by decide +kernel), List.mem_of_getElem? (i := 1375) (by decide +kernel)⟩
def lw_privs_2 : List (MethodName × Nat) := [(⟨"SoupOrHorsesModel", "noRow", "(I)I"⟩, 38), (⟨"SoupOrHorsesModel", "isEar", "(I)Z"⟩, 38), (⟨"SoupOrHorsesModel", "isEchoed", "(II)Z"⟩, 38), (⟨"SoupOrHorsesModel", "isTorn", "(III)Z"⟩, 38), (⟨"SoupOrHorsesModel", "addCall", "(III)V"⟩, 38), (⟨"SoupOrHorsesModel", "addEar", "(II)V"⟩, 38), (⟨"SoupOrHorsesModel", "addMan", "(II)V"⟩, 38), (⟨"SoupOrHorsesModel", "isCall", "(I)Z"⟩, 38), (⟨"SoupOrHorsesModel", "fresh", "()LSoupOrHorsesModel;"⟩, 38), (⟨"SoupOrHorsesModel", "takeFrom", "(LSoupOrHorsesModel;)V"⟩, 38), (⟨"SoupOrHorsesModel", "readAll", "()Z"⟩, 38), (⟨"SoupOrHorsesModel", "token", "()V"⟩, 38), (⟨"SoupOrHorsesModel", "statement", "()Z"⟩, 38), (⟨"SoupOrHorsesModel", "isWord", "(Ljava/lang/String;)Z"⟩, 38), (⟨"SoupOrHorsesModel", "callTold", "()Z"⟩, 38), (⟨"SoupOrHorsesModel", "wrong", "()Z"⟩, 38)]
theorem lw_r2 : ∀ q ∈ lw_privs_2, lw_okq q := List.forall_mem_cons.mpr ⟨lw_p16, List.forall_mem_cons.mpr ⟨lw_p17, List.forall_mem_cons.mpr ⟨lw_p18, List.forall_mem_cons.mpr ⟨lw_p19, List.forall_mem_cons.mpr ⟨lw_p20, List.forall_mem_cons.mpr ⟨lw_p21, List.forall_mem_cons.mpr ⟨lw_p22, List.forall_mem_cons.mpr ⟨lw_p23, List.forall_mem_cons.mpr ⟨lw_p24, List.forall_mem_cons.mpr ⟨lw_p25, List.forall_mem_cons.mpr ⟨lw_p26, List.forall_mem_cons.mpr ⟨lw_p27, List.forall_mem_cons.mpr ⟨lw_p28, List.forall_mem_cons.mpr ⟨lw_p29, List.forall_mem_cons.mpr ⟨lw_p30, List.forall_mem_cons.mpr ⟨lw_p31, fun _ h => absurd h List.not_mem_nil⟩⟩⟩⟩⟩⟩⟩⟩⟩⟩⟩⟩⟩⟩⟩⟩
theorem lw_p32 : lw_okq (⟨"SoupOrHorsesModel", "number", "(III)Z"⟩, 38) := ⟨⟨by decide +kernel, by decide +kernel⟩, List.mem_of_getElem? (i := 1087) (by decide +kernel), List.mem_of_getElem? (i := 1378) (by decide +kernel), List.mem_of_getElem? (i := 1379) (by decide +kernel)⟩
theorem lw_p33 : lw_okq (⟨"SoupOrHorsesModel", "tells", "(II)Z"⟩, 38) := ⟨⟨by decide +kernel, by decide +kernel⟩, List.mem_of_getElem? (i := 1087) (by decide +kernel), List.mem_of_getElem? (i := 1383) (by decide +kernel), List.mem_of_getElem? (i := 1384) (by decide +kernel)⟩
theorem lw_p34 : lw_okq (⟨"SoupOrHorsesModel", "isMan", "(I)Z"⟩, 38) := ⟨⟨by decide +kernel, by decide +kernel⟩, List.mem_of_getElem? (i := 1087) (by decide +kernel), List.mem_of_getElem? (i := 1404) (by decide +kernel), List.mem_of_getElem? (i := 1405) (by decide +kernel)⟩
theorem lw_p35 : lw_okq (⟨"SoupOrHorsesModel", "hears", "(III)I"⟩, 38) := ⟨⟨by decide +kernel, by decide +kernel⟩, List.mem_of_getElem? (i := 1087) (by decide +kernel), List.mem_of_getElem? (i := 1412) (by decide +kernel), List.mem_of_getElem? (i := 1413) (by decide +kernel)⟩
theorem lw_p36 : lw_okq (⟨"SoupOrHorsesModel", "noHearing", "(IIZZ)I"⟩, 38) := ⟨⟨by decide +kernel, by decide +kernel⟩, List.mem_of_getElem? (i := 1087) (by decide +kernel), List.mem_of_getElem? (i := 1420) (by decide +kernel), List.mem_of_getElem? (i := 1421) (by decide +kernel)⟩
theorem lw_p37 : lw_okq (⟨"SoupOrHorsesModel", "noNotes", "(II)I"⟩, 38) := ⟨⟨by decide +kernel, by decide +kernel⟩, List.mem_of_getElem? (i := 1087) (by decide +kernel), List.mem_of_getElem? (i := 1424) (by decide +kernel), List.mem_of_getElem? (i := 1425) (by decide +kernel)⟩
theorem lw_p38 : lw_okq (⟨"SoupOrHorsesModel", "fitsHearing", "(II)Z"⟩, 38) := ⟨⟨by decide +kernel, by decide +kernel⟩, List.mem_of_getElem? (i := 1087) (by decide +kernel), List.mem_of_getElem? (i := 1428) (by decide +kernel), List.mem_of_getElem? (i := 1429) (by decide +kernel)⟩
theorem lw_p39 : lw_okq (⟨"SoupOrHorsesModel", "likelyOf", "(II)I"⟩, 38) := ⟨⟨by decide +kernel, by decide +kernel⟩, List.mem_of_getElem? (i := 1087) (by decide +kernel), List.mem_of_getElem? (i := 1436) (by decide +kernel), List.mem_of_getElem? (i := 1437) (by decide +kernel)⟩
theorem lw_p40 : lw_okq (⟨"SoupOrHorsesModel", "guessOf", "(I)I"⟩, 38) := ⟨⟨by decide +kernel, by decide +kernel⟩, List.mem_of_getElem? (i := 1087) (by decide +kernel), List.mem_of_getElem? (i := 1444) (by decide +kernel), List.mem_of_getElem? (i := 1445) (by decide +kernel)⟩
theorem lw_p41 : lw_okq (⟨"SoupOrHorsesModel", "apartOf", "(II)I"⟩, 38) := ⟨⟨by decide +kernel, by decide +kernel⟩, List.mem_of_getElem? (i := 1087) (by decide +kernel), List.mem_of_getElem? (i := 1460) (by decide +kernel), List.mem_of_getElem? (i := 1461) (by decide +kernel)⟩
theorem lw_p42 : lw_okq (⟨"SoupOrHorsesModel", "knownOf", "(II)I"⟩, 38) := ⟨⟨by decide +kernel, by decide +kernel⟩, List.mem_of_getElem? (i := 1087) (by decide +kernel), List.mem_of_getElem? (i := 1468) (by decide +kernel), List.mem_of_getElem? (i := 1469) (by decide +kernel)⟩
theorem lw_p43 : lw_okq (⟨"SoupOrHorsesModel", "hearsOf", "(IIIZ)V"⟩, 38) := ⟨⟨by decide +kernel, by decide +kernel⟩, List.mem_of_getElem? (i := 1087) (by decide +kernel), List.mem_of_getElem? (i := 1472) (by decide +kernel), List.mem_of_getElem? (i := 1473) (by decide +kernel)⟩
theorem lw_p44 : lw_okq (⟨"SoupOrHorsesModel", "isAlone", "(II)Z"⟩, 38) := ⟨⟨by decide +kernel, by decide +kernel⟩, List.mem_of_getElem? (i := 1087) (by decide +kernel), List.mem_of_getElem? (i := 1476) (by decide +kernel), List.mem_of_getElem? (i := 1477) (by decide +kernel)⟩
theorem lw_p45 : lw_okq (⟨"SoupOrHorsesModel", "behindOf", "(II)I"⟩, 38) := ⟨⟨by decide +kernel, by decide +kernel⟩, List.mem_of_getElem? (i := 1087) (by decide +kernel), List.mem_of_getElem? (i := 1484) (by decide +kernel), List.mem_of_getElem? (i := 1485) (by decide +kernel)⟩
theorem lw_p46 : lw_okq (⟨"SoupOrHorsesModel", "uses", "()I"⟩, 38) := ⟨⟨by decide +kernel, by decide +kernel⟩, List.mem_of_getElem? (i := 1087) (by decide +kernel), List.mem_of_getElem? (i := 1492) (by decide +kernel), List.mem_of_getElem? (i := 1493) (by decide +kernel)⟩
theorem lw_p47 : lw_okq (⟨"SoupOrHorsesModel", "riskOf", "(II)I"⟩, 38) := ⟨⟨by decide +kernel, by decide +kernel⟩, List.mem_of_getElem? (i := 1087) (by decide +kernel), List.mem_of_getElem? (i := 1500) (by decide +kernel), List.mem_of_getElem? (i := 1501) (by decide +kernel)⟩
def lw_privs_3 : List (MethodName × Nat) := [(⟨"SoupOrHorsesModel", "number", "(III)Z"⟩, 38), (⟨"SoupOrHorsesModel", "tells", "(II)Z"⟩, 38), (⟨"SoupOrHorsesModel", "isMan", "(I)Z"⟩, 38), (⟨"SoupOrHorsesModel", "hears", "(III)I"⟩, 38), (⟨"SoupOrHorsesModel", "noHearing", "(IIZZ)I"⟩, 38), (⟨"SoupOrHorsesModel", "noNotes", "(II)I"⟩, 38), (⟨"SoupOrHorsesModel", "fitsHearing", "(II)Z"⟩, 38), (⟨"SoupOrHorsesModel", "likelyOf", "(II)I"⟩, 38), (⟨"SoupOrHorsesModel", "guessOf", "(I)I"⟩, 38), (⟨"SoupOrHorsesModel", "apartOf", "(II)I"⟩, 38), (⟨"SoupOrHorsesModel", "knownOf", "(II)I"⟩, 38), (⟨"SoupOrHorsesModel", "hearsOf", "(IIIZ)V"⟩, 38), (⟨"SoupOrHorsesModel", "isAlone", "(II)Z"⟩, 38), (⟨"SoupOrHorsesModel", "behindOf", "(II)I"⟩, 38), (⟨"SoupOrHorsesModel", "uses", "()I"⟩, 38), (⟨"SoupOrHorsesModel", "riskOf", "(II)I"⟩, 38)]
theorem lw_r3 : ∀ q ∈ lw_privs_3, lw_okq q := List.forall_mem_cons.mpr ⟨lw_p32, List.forall_mem_cons.mpr ⟨lw_p33, List.forall_mem_cons.mpr ⟨lw_p34, List.forall_mem_cons.mpr ⟨lw_p35, List.forall_mem_cons.mpr ⟨lw_p36, List.forall_mem_cons.mpr ⟨lw_p37, List.forall_mem_cons.mpr ⟨lw_p38, List.forall_mem_cons.mpr ⟨lw_p39, List.forall_mem_cons.mpr ⟨lw_p40, List.forall_mem_cons.mpr ⟨lw_p41, List.forall_mem_cons.mpr ⟨lw_p42, List.forall_mem_cons.mpr ⟨lw_p43, List.forall_mem_cons.mpr ⟨lw_p44, List.forall_mem_cons.mpr ⟨lw_p45, List.forall_mem_cons.mpr ⟨lw_p46, List.forall_mem_cons.mpr ⟨lw_p47, fun _ h => absurd h List.not_mem_nil⟩⟩⟩⟩⟩⟩⟩⟩⟩⟩⟩⟩⟩⟩⟩⟩
theorem lw_p48 : lw_okq (⟨"SoupOrHorsesModel", "becomes", "(II)I"⟩, 38) := ⟨⟨by decide +kernel, by decide +kernel⟩, List.mem_of_getElem? (i := 1087) (by decide +kernel), List.mem_of_getElem? (i := 1524) (by decide +kernel), List.mem_of_getElem? (i := 1525) (by decide +kernel)⟩
theorem lw_p49 : lw_okq (⟨"SoupOrHorsesModel", "isFar", "(III)Z"⟩, 38) := ⟨⟨by decide +kernel, by decide +kernel⟩, List.mem_of_getElem? (i := 1087) (by decide +kernel), List.mem_of_getElem? (i := 1528) (by decide +kernel), List.mem_of_getElem? (i := 1529) (by decide +kernel)⟩
theorem lw_p50 : lw_okq (⟨"SoupOrHorsesModel", "farFrom", "(II)I"⟩, 38) := ⟨⟨by decide +kernel, by decide +kernel⟩, List.mem_of_getElem? (i := 1087) (by decide +kernel), List.mem_of_getElem? (i := 1532) (by decide +kernel), List.mem_of_getElem? (i := 1533) (by decide +kernel)⟩
theorem lw_p51 : lw_okq (⟨"SoupOrHorsesModel", "areApart", "(II)Z"⟩, 38) := ⟨⟨by decide +kernel, by decide +kernel⟩, List.mem_of_getElem? (i := 1087) (by decide +kernel), List.mem_of_getElem? (i := 1555) (by decide +kernel), List.mem_of_getElem? (i := 1556) (by decide +kernel)⟩
theorem lw_p52 : lw_okq (⟨"SoupOrHorsesModel", "goes", "(I)V"⟩, 38) := ⟨⟨by decide +kernel, by decide +kernel⟩, List.mem_of_getElem? (i := 1087) (by decide +kernel), List.mem_of_getElem? (i := 1563) (by decide +kernel), List.mem_of_getElem? (i := 1564) (by decide +kernel)⟩
theorem lw_p53 : lw_okq (⟨"SoupOrHorsesModel", "mostDo", "(I)I"⟩, 38) := ⟨⟨by decide +kernel, by decide +kernel⟩, List.mem_of_getElem? (i := 1087) (by decide +kernel), List.mem_of_getElem? (i := 1567) (by decide +kernel), List.mem_of_getElem? (i := 1568) (by decide +kernel)⟩
theorem lw_p54 : lw_okq (⟨"SoupOrHorsesModel", "rightOf", "(I)I"⟩, 38) := ⟨⟨by decide +kernel, by decide +kernel⟩, List.mem_of_getElem? (i := 1087) (by decide +kernel), List.mem_of_getElem? (i := 1575) (by decide +kernel), List.mem_of_getElem? (i := 1576) (by decide +kernel)⟩
theorem lw_p55 : lw_okq (⟨"SoupOrHorsesModel", "nearestOf", "()I"⟩, 38) := ⟨⟨by decide +kernel, by decide +kernel⟩, List.mem_of_getElem? (i := 1087) (by decide +kernel), List.mem_of_getElem? (i := 1599) (by decide +kernel), List.mem_of_getElem? (i := 1600) (by decide +kernel)⟩
theorem lw_p56 : lw_okq (⟨"SoupOrHorsesModel", "differs", "(I)I"⟩, 38) := ⟨⟨by decide +kernel, by decide +kernel⟩, List.mem_of_getElem? (i := 1087) (by decide +kernel), List.mem_of_getElem? (i := 1603) (by decide +kernel), List.mem_of_getElem? (i := 1604) (by decide +kernel)⟩
theorem lw_p57 : lw_okq (⟨"SoupOrHorsesModel", "sounded", "(I)I"⟩, 38) := ⟨⟨by decide +kernel, by decide +kernel⟩, List.mem_of_getElem? (i := 1087) (by decide +kernel), List.mem_of_getElem? (i := 1615) (by decide +kernel), List.mem_of_getElem? (i := 1616) (by decide +kernel)⟩
theorem lw_p58 : lw_okq (⟨"SoupOrHorsesModel", "below", "(I)I"⟩, 38) := ⟨⟨by decide +kernel, by decide +kernel⟩, List.mem_of_getElem? (i := 1087) (by decide +kernel), List.mem_of_getElem? (i := 1619) (by decide +kernel), List.mem_of_getElem? (i := 1620) (by decide +kernel)⟩
def lw_privs_4 : List (MethodName × Nat) := [(⟨"SoupOrHorsesModel", "becomes", "(II)I"⟩, 38), (⟨"SoupOrHorsesModel", "isFar", "(III)Z"⟩, 38), (⟨"SoupOrHorsesModel", "farFrom", "(II)I"⟩, 38), (⟨"SoupOrHorsesModel", "areApart", "(II)Z"⟩, 38), (⟨"SoupOrHorsesModel", "goes", "(I)V"⟩, 38), (⟨"SoupOrHorsesModel", "mostDo", "(I)I"⟩, 38), (⟨"SoupOrHorsesModel", "rightOf", "(I)I"⟩, 38), (⟨"SoupOrHorsesModel", "nearestOf", "()I"⟩, 38), (⟨"SoupOrHorsesModel", "differs", "(I)I"⟩, 38), (⟨"SoupOrHorsesModel", "sounded", "(I)I"⟩, 38), (⟨"SoupOrHorsesModel", "below", "(I)I"⟩, 38)]
theorem lw_r4 : ∀ q ∈ lw_privs_4, lw_okq q := List.forall_mem_cons.mpr ⟨lw_p48, List.forall_mem_cons.mpr ⟨lw_p49, List.forall_mem_cons.mpr ⟨lw_p50, List.forall_mem_cons.mpr ⟨lw_p51, List.forall_mem_cons.mpr ⟨lw_p52, List.forall_mem_cons.mpr ⟨lw_p53, List.forall_mem_cons.mpr ⟨lw_p54, List.forall_mem_cons.mpr ⟨lw_p55, List.forall_mem_cons.mpr ⟨lw_p56, List.forall_mem_cons.mpr ⟨lw_p57, List.forall_mem_cons.mpr ⟨lw_p58, fun _ h => absurd h List.not_mem_nil⟩⟩⟩⟩⟩⟩⟩⟩⟩⟩⟩
def lw_privs : List (MethodName × Nat) := lw_privs_1 ++ (lw_privs_2 ++ (lw_privs_3 ++ (lw_privs_4)))
def lw_tbl : List Cond := k2_sels lw_privs ++ tables_1
theorem lw_privs_ok : ∀ q ∈ lw_privs, lw_okq q := by
  show ∀ q ∈ lw_privs_1 ++ (lw_privs_2 ++ (lw_privs_3 ++ (lw_privs_4))), lw_okq q
  exact List.forall_mem_append.mpr ⟨lw_r1, List.forall_mem_append.mpr ⟨lw_r2, List.forall_mem_append.mpr ⟨lw_r3, lw_r4⟩⟩⟩
def RX0 : String := "SoupOrHorses$Camp"
def TX0 : u_T := fun k => match k with
  | 0 => ("SoupOrHorses$Camp", "sizes", "[I", true)
  | 1 => ("SoupOrHorses$Camp", "packed", "[I", true)
  | 2 => ("SoupOrHorses$Camp", "uses", "[I", true)
  | 3 => ("SoupOrHorses$Camp", "costs", "[I", true)
  | 4 => ("SoupOrHorses$Camp", "kinds", "[I", true)
  | 5 => ("SoupOrHorses$Camp", "strengths", "[I", true)
  | 6 => ("SoupOrHorses$Camp", "earsOfMen", "[I", true)
  | 7 => ("SoupOrHorses$Camp", "looks", "[I", true)
  | 8 => ("SoupOrHorses$Camp", "calls", "I", false)
  | 9 => ("SoupOrHorses$Camp", "ears", "I", false)
  | 10 => ("SoupOrHorses$Camp", "men", "I", false)
  | 11 => ("SoupOrHorses$Camp", "sure", "I", false)
  | 12 => ("SoupOrHorses$Camp", "lost", "I", false)
  | _ => ("SoupOrHorses$Camp", "seed", "I", false)
def tyX0 : Nat → FieldType := fun k => match k with
  | 0 => .array .int
  | 1 => .array .int
  | 2 => .array .int
  | 3 => .array .int
  | 4 => .array .int
  | 5 => .array .int
  | 6 => .array .int
  | 7 => .array .int
  | 8 => .int
  | 9 => .int
  | 10 => .int
  | 11 => .int
  | 12 => .int
  | _ => .int
theorem nmX0 : ∀ a, a < 14 → ∀ b, b < 14 → a ≠ b → (TX0 a).2.1 ≠ (TX0 b).2.1 := by decide +kernel
theorem tyX0_ok : ∀ k, k < 14 → parseFieldDescriptor (TX0 k).2.2.1 = some (tyX0 k) := by decide +kernel
abbrev cX0_init : ByteArray := prog_2_method_1_code
def yX0_init : MethodName := ⟨RX0, "<init>", "()V"⟩
abbrev cX0_isNote : ByteArray := prog_2_method_2_code
def yX0_isNote : MethodName := ⟨RX0, "isNote", "(J)Z"⟩
abbrev cX0_isUse : ByteArray := prog_2_method_3_code
def yX0_isUse : MethodName := ⟨RX0, "isUse", "(I)Z"⟩
abbrev cX0_isCost : ByteArray := prog_2_method_4_code
def yX0_isCost : MethodName := ⟨RX0, "isCost", "(I)Z"⟩
abbrev cX0_isLook : ByteArray := prog_2_method_5_code
def yX0_isLook : MethodName := ⟨RX0, "isLook", "(I)Z"⟩
abbrev cX0_isSure : ByteArray := prog_2_method_6_code
def yX0_isSure : MethodName := ⟨RX0, "isSure", "(I)Z"⟩
abbrev cX0_isLost : ByteArray := prog_2_method_7_code
def yX0_isLost : MethodName := ⟨RX0, "isLost", "(I)Z"⟩
abbrev cX0_packedNote : ByteArray := prog_2_method_8_code
def yX0_packedNote : MethodName := ⟨RX0, "packedNote", "(II)I"⟩
abbrev cX0_takeAll : ByteArray := prog_2_method_9_code
def yX0_takeAll : MethodName := ⟨RX0, "takeAll", "(LSoupOrHorses$Camp;)V"⟩
abbrev cX0_isCall : ByteArray := prog_2_method_10_code
def yX0_isCall : MethodName := ⟨RX0, "isCall", "(I)Z"⟩
abbrev cX0_isEar : ByteArray := prog_2_method_11_code
def yX0_isEar : MethodName := ⟨RX0, "isEar", "(I)Z"⟩
abbrev cX0_isMan : ByteArray := prog_2_method_12_code
def yX0_isMan : MethodName := ⟨RX0, "isMan", "(I)Z"⟩
abbrev cX0_hasRoomForCall : ByteArray := prog_2_method_13_code
def yX0_hasRoomForCall : MethodName := ⟨RX0, "hasRoomForCall", "()Z"⟩
abbrev cX0_hasRoomForEar : ByteArray := prog_2_method_14_code
def yX0_hasRoomForEar : MethodName := ⟨RX0, "hasRoomForEar", "()Z"⟩
abbrev cX0_hasRoomForMan : ByteArray := prog_2_method_15_code
def yX0_hasRoomForMan : MethodName := ⟨RX0, "hasRoomForMan", "()Z"⟩
abbrev cX0_addCall : ByteArray := prog_2_method_16_code
def yX0_addCall : MethodName := ⟨RX0, "addCall", "(II)I"⟩
abbrev cX0_addNote : ByteArray := prog_2_method_17_code
def yX0_addNote : MethodName := ⟨RX0, "addNote", "(I)V"⟩
abbrev cX0_removeLastCall : ByteArray := prog_2_method_18_code
def yX0_removeLastCall : MethodName := ⟨RX0, "removeLastCall", "()I"⟩
abbrev cX0_addEar : ByteArray := prog_2_method_19_code
def yX0_addEar : MethodName := ⟨RX0, "addEar", "(II)I"⟩
abbrev cX0_addMan : ByteArray := prog_2_method_20_code
def yX0_addMan : MethodName := ⟨RX0, "addMan", "(II)I"⟩
abbrev cX0_sizeOf : ByteArray := prog_2_method_21_code
def yX0_sizeOf : MethodName := ⟨RX0, "sizeOf", "(I)I"⟩
abbrev cX0_packedOf : ByteArray := prog_2_method_22_code
def yX0_packedOf : MethodName := ⟨RX0, "packedOf", "(I)I"⟩
abbrev cX0_useOf : ByteArray := prog_2_method_23_code
def yX0_useOf : MethodName := ⟨RX0, "useOf", "(I)I"⟩
abbrev cX0_costOf : ByteArray := prog_2_method_24_code
def yX0_costOf : MethodName := ⟨RX0, "costOf", "(I)I"⟩
abbrev cX0_isNoteOf : ByteArray := prog_2_method_25_code
def yX0_isNoteOf : MethodName := ⟨RX0, "isNoteOf", "(II)Z"⟩
abbrev cX0_noteAt : ByteArray := prog_2_method_26_code
def yX0_noteAt : MethodName := ⟨RX0, "noteAt", "(II)I"⟩
abbrev cX0_kindOf : ByteArray := prog_2_method_27_code
def yX0_kindOf : MethodName := ⟨RX0, "kindOf", "(I)I"⟩
abbrev cX0_strengthOf : ByteArray := prog_2_method_28_code
def yX0_strengthOf : MethodName := ⟨RX0, "strengthOf", "(I)I"⟩
abbrev cX0_earOfMan : ByteArray := prog_2_method_29_code
def yX0_earOfMan : MethodName := ⟨RX0, "earOfMan", "(I)I"⟩
abbrev cX0_lookOf : ByteArray := prog_2_method_30_code
def yX0_lookOf : MethodName := ⟨RX0, "lookOf", "(I)I"⟩
abbrev cX0_changeUse : ByteArray := prog_2_method_31_code
def yX0_changeUse : MethodName := ⟨RX0, "changeUse", "(II)I"⟩
abbrev cX0_changeCost : ByteArray := prog_2_method_32_code
def yX0_changeCost : MethodName := ⟨RX0, "changeCost", "(II)I"⟩
abbrev cX0_countNotes : ByteArray := prog_2_method_33_code
def yX0_countNotes : MethodName := ⟨RX0, "countNotes", "()I"⟩
abbrev cX0_countNote : ByteArray := prog_2_method_34_code
def yX0_countNote : MethodName := ⟨RX0, "countNote", "(I)I"⟩
abbrev cX0_sumUses : ByteArray := prog_2_method_35_code
def yX0_sumUses : MethodName := ⟨RX0, "sumUses", "()I"⟩
abbrev cX0_countLookers : ByteArray := prog_2_method_36_code
def yX0_countLookers : MethodName := ⟨RX0, "countLookers", "()I"⟩
abbrev cX0_learnedAt : ByteArray := prog_2_method_37_code
def yX0_learnedAt : MethodName := ⟨RX0, "learnedAt", "(I)I"⟩
abbrev cX0_countLearnedAhead : ByteArray := prog_2_method_38_code
def yX0_countLearnedAhead : MethodName := ⟨RX0, "countLearnedAhead", "(I)I"⟩
abbrev cX0_drawBelow : ByteArray := prog_2_method_39_code
def yX0_drawBelow : MethodName := ⟨RX0, "drawBelow", "(I)I"⟩
def RX1 : String := "SoupOrHorses$Crowd"
def TX1 : u_T := fun k => match k with
  | 0 => ("SoupOrHorses$Crowd", "guesses", "[I", true)
  | 1 => ("SoupOrHorses$Crowd", "likelies", "[I", true)
  | 2 => ("SoupOrHorses$Crowd", "deeds", "[I", true)
  | 3 => ("SoupOrHorses$Crowd", "tally", "[I", true)
  | _ => ("SoupOrHorses$Crowd", "men", "I", false)
def tyX1 : Nat → FieldType := fun k => match k with
  | 0 => .array .int
  | 1 => .array .int
  | 2 => .array .int
  | 3 => .array .int
  | _ => .int
theorem nmX1 : ∀ a, a < 5 → ∀ b, b < 5 → a ≠ b → (TX1 a).2.1 ≠ (TX1 b).2.1 := by decide +kernel
theorem tyX1_ok : ∀ k, k < 5 → parseFieldDescriptor (TX1 k).2.2.1 = some (tyX1 k) := by decide +kernel
abbrev cX1_init : ByteArray := prog_3_method_1_code
def yX1_init : MethodName := ⟨RX1, "<init>", "()V"⟩
abbrev cX1_hearAndDo : ByteArray := prog_3_method_2_code
def yX1_hearAndDo : MethodName := ⟨RX1, "hearAndDo", "(LSoupOrHorses$Camp;LSoupOrHorses$Hearing;I)V"⟩
abbrev cX1_hearAll : ByteArray := prog_3_method_3_code
def yX1_hearAll : MethodName := ⟨RX1, "hearAll", "(LSoupOrHorses$Camp;LSoupOrHorses$Hearing;I)V"⟩
abbrev cX1_doAll : ByteArray := prog_3_method_4_code
def yX1_doAll : MethodName := ⟨RX1, "doAll", "(LSoupOrHorses$Camp;I)V"⟩
abbrev cX1_countDeed : ByteArray := prog_3_method_5_code
def yX1_countDeed : MethodName := ⟨RX1, "countDeed", "(I)V"⟩
abbrev cX1_mostDone : ByteArray := prog_3_method_6_code
def yX1_mostDone : MethodName := ⟨RX1, "mostDone", "()I"⟩
abbrev cX1_deedOf : ByteArray := prog_3_method_7_code
def yX1_deedOf : MethodName := ⟨RX1, "deedOf", "(I)I"⟩
abbrev cX1_countDoing : ByteArray := prog_3_method_8_code
def yX1_countDoing : MethodName := ⟨RX1, "countDoing", "(I)I"⟩
abbrev cX1_firstNotDoing : ByteArray := prog_3_method_9_code
def yX1_firstNotDoing : MethodName := ⟨RX1, "firstNotDoing", "(I)I"⟩
abbrev cX1_notByGuess : ByteArray := prog_3_method_10_code
def yX1_notByGuess : MethodName := ⟨RX1, "notByGuess", "()I"⟩
abbrev cX1_leastSure : ByteArray := prog_3_method_11_code
def yX1_leastSure : MethodName := ⟨RX1, "leastSure", "(LSoupOrHorses$Camp;LSoupOrHorses$Hearing;I)I"⟩
def RX2 : String := "SoupOrHorses$Hearing"
def TX2 : u_T := fun k => match k with
  | 0 => ("SoupOrHorses$Hearing", "heardNotes", "[I", true)
  | 1 => ("SoupOrHorses$Hearing", "size", "I", false)
  | _ => ("SoupOrHorses$Hearing", "isOver", "Z", false)
def tyX2 : Nat → FieldType := fun k => match k with
  | 0 => .array .int
  | 1 => .int
  | _ => .boolean
theorem nmX2 : ∀ a, a < 3 → ∀ b, b < 3 → a ≠ b → (TX2 a).2.1 ≠ (TX2 b).2.1 := by decide +kernel
theorem tyX2_ok : ∀ k, k < 3 → parseFieldDescriptor (TX2 k).2.2.1 = some (tyX2 k) := by decide +kernel
abbrev cX2_init : ByteArray := prog_4_method_1_code
def yX2_init : MethodName := ⟨RX2, "<init>", "()V"⟩
abbrev cX2_noteAt : ByteArray := prog_4_method_2_code
def yX2_noteAt : MethodName := ⟨RX2, "noteAt", "(I)I"⟩
abbrev cX2_cutTo : ByteArray := prog_4_method_3_code
def yX2_cutTo : MethodName := ⟨RX2, "cutTo", "(IZ)V"⟩
abbrev cX2_putNote : ByteArray := prog_4_method_4_code
def yX2_putNote : MethodName := ⟨RX2, "putNote", "(II)V"⟩
abbrev cX2_takeShelf : ByteArray := prog_4_method_5_code
def yX2_takeShelf : MethodName := ⟨RX2, "takeShelf", "(LSoupOrHorses$Shelf;IZ)V"⟩
abbrev cX2_takeCall : ByteArray := prog_4_method_6_code
def yX2_takeCall : MethodName := ⟨RX2, "takeCall", "(LSoupOrHorses$Camp;II)V"⟩
abbrev cX2_takeSounded : ByteArray := prog_4_method_7_code
def yX2_takeSounded : MethodName := ⟨RX2, "takeSounded", "(LSoupOrHorses$Camp;I)I"⟩
def RX3 : String := "SoupOrHorses$Kind"
def TX3 : u_T := fun k => match k with
  | _ => ("", "", "", false)
def tyX3 : Nat → FieldType := fun k => match k with
  | _ => .int
theorem nmX3 : ∀ a, a < 0 → ∀ b, b < 0 → a ≠ b → (TX3 a).2.1 ≠ (TX3 b).2.1 := by decide +kernel
theorem tyX3_ok : ∀ k, k < 0 → parseFieldDescriptor (TX3 k).2.2.1 = some (tyX3 k) := by decide +kernel
abbrev cX3_isKind : ByteArray := prog_5_method_2_code
def yX3_isKind : MethodName := ⟨RX3, "isKind", "(I)Z"⟩
abbrev cX3_isStrength : ByteArray := prog_5_method_3_code
def yX3_isStrength : MethodName := ⟨RX3, "isStrength", "(I)Z"⟩
abbrev cX3_isUnder : ByteArray := prog_5_method_4_code
def yX3_isUnder : MethodName := ⟨RX3, "isUnder", "(II)Z"⟩
abbrev cX3_isTornAway : ByteArray := prog_5_method_5_code
def yX3_isTornAway : MethodName := ⟨RX3, "isTornAway", "(IIII)Z"⟩
abbrev cX3_isEchoed : ByteArray := prog_5_method_6_code
def yX3_isEchoed : MethodName := ⟨RX3, "isEchoed", "(III)Z"⟩
abbrev cX3_changedNote : ByteArray := prog_5_method_7_code
def yX3_changedNote : MethodName := ⟨RX3, "changedNote", "(II)I"⟩
abbrev cX3_tellOf : ByteArray := prog_5_method_8_code
def yX3_tellOf : MethodName := ⟨RX3, "tellOf", "(III)I"⟩
abbrev cX3_countTornAway : ByteArray := prog_5_method_9_code
def yX3_countTornAway : MethodName := ⟨RX3, "countTornAway", "(II)I"⟩
abbrev cX3_countEchoed : ByteArray := prog_5_method_10_code
def yX3_countEchoed : MethodName := ⟨RX3, "countEchoed", "(II)I"⟩
def RX4 : String := "SoupOrHorses$Likeness"
def TX4 : u_T := fun k => match k with
  | _ => ("SoupOrHorses$Likeness", "tooNear", "[I", true)
def tyX4 : Nat → FieldType := fun k => match k with
  | _ => .array .int
theorem nmX4 : ∀ a, a < 1 → ∀ b, b < 1 → a ≠ b → (TX4 a).2.1 ≠ (TX4 b).2.1 := by decide +kernel
theorem tyX4_ok : ∀ k, k < 1 → parseFieldDescriptor (TX4 k).2.2.1 = some (tyX4 k) := by decide +kernel
abbrev cX4_init : ByteArray := prog_6_method_1_code
def yX4_init : MethodName := ⟨RX4, "<init>", "()V"⟩
abbrev cX4_distance : ByteArray := prog_6_method_2_code
def yX4_distance : MethodName := ⟨RX4, "distance", "(II)I"⟩
abbrev cX4_sameStart : ByteArray := prog_6_method_3_code
def yX4_sameStart : MethodName := ⟨RX4, "sameStart", "(LSoupOrHorses$Camp;II)I"⟩
abbrev cX4_countTwins : ByteArray := prog_6_method_4_code
def yX4_countTwins : MethodName := ⟨RX4, "countTwins", "(LSoupOrHorses$Camp;)I"⟩
abbrev cX4_nearestPair : ByteArray := prog_6_method_5_code
def yX4_nearestPair : MethodName := ⟨RX4, "nearestPair", "(LSoupOrHorses$Camp;)I"⟩
abbrev cX4_pairDistance : ByteArray := prog_6_method_6_code
def yX4_pairDistance : MethodName := ⟨RX4, "pairDistance", "(LSoupOrHorses$Camp;I)I"⟩
abbrev cX4_isClear : ByteArray := prog_6_method_7_code
def yX4_isClear : MethodName := ⟨RX4, "isClear", "(LSoupOrHorses$Camp;III)Z"⟩
abbrev cX4_countRows : ByteArray := prog_6_method_8_code
def yX4_countRows : MethodName := ⟨RX4, "countRows", "(I)I"⟩
abbrev cX4_packedRow : ByteArray := prog_6_method_9_code
def yX4_packedRow : MethodName := ⟨RX4, "packedRow", "(II)I"⟩
abbrev cX4_firstFresh : ByteArray := prog_6_method_10_code
def yX4_firstFresh : MethodName := ⟨RX4, "firstFresh", "(LSoupOrHorses$Camp;II)I"⟩
abbrev cX4_fewestChanges : ByteArray := prog_6_method_11_code
def yX4_fewestChanges : MethodName := ⟨RX4, "fewestChanges", "(LSoupOrHorses$Camp;II)I"⟩
abbrev cX4_bestSet : ByteArray := prog_6_method_12_code
def yX4_bestSet : MethodName := ⟨RX4, "bestSet", "(LSoupOrHorses$Camp;I)I"⟩
abbrev cX4_findTooNear : ByteArray := prog_6_method_13_code
def yX4_findTooNear : MethodName := ⟨RX4, "findTooNear", "(LSoupOrHorses$Camp;I)V"⟩
abbrev cX4_usesIfKept : ByteArray := prog_6_method_14_code
def yX4_usesIfKept : MethodName := ⟨RX4, "usesIfKept", "(LSoupOrHorses$Camp;I)I"⟩
def RX5 : String := "SoupOrHorses$Reader"
def TX5 : u_T := fun k => match k with
  | _ => ("", "", "", false)
def tyX5 : Nat → FieldType := fun k => match k with
  | _ => .int
theorem nmX5 : ∀ a, a < 0 → ∀ b, b < 0 → a ≠ b → (TX5 a).2.1 ≠ (TX5 b).2.1 := by decide +kernel
theorem tyX5_ok : ∀ k, k < 0 → parseFieldDescriptor (TX5 k).2.2.1 = some (tyX5 k) := by decide +kernel
abbrev cX5_readCamp : ByteArray := prog_7_method_2_code
def yX5_readCamp : MethodName := ⟨RX5, "readCamp", "(LSoupOrHorses$Tape;LSoupOrHorses$Camp;)I"⟩
abbrev cX5_isStatementRead : ByteArray := prog_7_method_3_code
def yX5_isStatementRead : MethodName := ⟨RX5, "isStatementRead", "(LSoupOrHorses$Tape;LSoupOrHorses$Camp;)Z"⟩
abbrev cX5_isCallRead : ByteArray := prog_7_method_4_code
def yX5_isCallRead : MethodName := ⟨RX5, "isCallRead", "(LSoupOrHorses$Tape;LSoupOrHorses$Camp;)Z"⟩
abbrev cX5_isEarRead : ByteArray := prog_7_method_5_code
def yX5_isEarRead : MethodName := ⟨RX5, "isEarRead", "(LSoupOrHorses$Tape;LSoupOrHorses$Camp;)Z"⟩
abbrev cX5_isManRead : ByteArray := prog_7_method_6_code
def yX5_isManRead : MethodName := ⟨RX5, "isManRead", "(LSoupOrHorses$Tape;LSoupOrHorses$Camp;)Z"⟩
abbrev cX5_isSureRead : ByteArray := prog_7_method_7_code
def yX5_isSureRead : MethodName := ⟨RX5, "isSureRead", "(LSoupOrHorses$Tape;LSoupOrHorses$Camp;)Z"⟩
abbrev cX5_isLostRead : ByteArray := prog_7_method_8_code
def yX5_isLostRead : MethodName := ⟨RX5, "isLostRead", "(LSoupOrHorses$Tape;LSoupOrHorses$Camp;)Z"⟩
abbrev cX5_isUseRead : ByteArray := prog_7_method_9_code
def yX5_isUseRead : MethodName := ⟨RX5, "isUseRead", "(LSoupOrHorses$Tape;LSoupOrHorses$Camp;)Z"⟩
def RX6 : String := "SoupOrHorses$Sense"
def TX6 : u_T := fun k => match k with
  | _ => ("", "", "", false)
def tyX6 : Nat → FieldType := fun k => match k with
  | _ => .int
theorem nmX6 : ∀ a, a < 0 → ∀ b, b < 0 → a ≠ b → (TX6 a).2.1 ≠ (TX6 b).2.1 := by decide +kernel
theorem tyX6_ok : ∀ k, k < 0 → parseFieldDescriptor (TX6 k).2.2.1 = some (tyX6 k) := by decide +kernel
abbrev cX6_noteByEar : ByteArray := prog_8_method_2_code
def yX6_noteByEar : MethodName := ⟨RX6, "noteByEar", "(LSoupOrHorses$Camp;III)I"⟩
abbrev cX6_isFit : ByteArray := prog_8_method_3_code
def yX6_isFit : MethodName := ⟨RX6, "isFit", "(LSoupOrHorses$Camp;LSoupOrHorses$Hearing;II)Z"⟩
abbrev cX6_usesThatFit : ByteArray := prog_8_method_4_code
def yX6_usesThatFit : MethodName := ⟨RX6, "usesThatFit", "(LSoupOrHorses$Camp;LSoupOrHorses$Hearing;I)I"⟩
abbrev cX6_likelyOf : ByteArray := prog_8_method_5_code
def yX6_likelyOf : MethodName := ⟨RX6, "likelyOf", "(LSoupOrHorses$Camp;LSoupOrHorses$Hearing;II)I"⟩
abbrev cX6_perThousand : ByteArray := prog_8_method_6_code
def yX6_perThousand : MethodName := ⟨RX6, "perThousand", "(II)I"⟩
abbrev cX6_guessOf : ByteArray := prog_8_method_7_code
def yX6_guessOf : MethodName := ⟨RX6, "guessOf", "(LSoupOrHorses$Camp;LSoupOrHorses$Hearing;I)I"⟩
abbrev cX6_fitsAnother : ByteArray := prog_8_method_8_code
def yX6_fitsAnother : MethodName := ⟨RX6, "fitsAnother", "(LSoupOrHorses$Camp;LSoupOrHorses$Hearing;II)Z"⟩
abbrev cX6_countedBehind : ByteArray := prog_8_method_9_code
def yX6_countedBehind : MethodName := ⟨RX6, "countedBehind", "(LSoupOrHorses$Camp;LSoupOrHorses$Hearing;II)I"⟩
abbrev cX6_bestEar : ByteArray := prog_8_method_10_code
def yX6_bestEar : MethodName := ⟨RX6, "bestEar", "(LSoupOrHorses$Camp;LSoupOrHorses$Hearing;I)I"⟩
abbrev cX6_meanBehind : ByteArray := prog_8_method_11_code
def yX6_meanBehind : MethodName := ⟨RX6, "meanBehind", "(LSoupOrHorses$Camp;LSoupOrHorses$Hearing;I)I"⟩
abbrev cX6_riskOf : ByteArray := prog_8_method_12_code
def yX6_riskOf : MethodName := ⟨RX6, "riskOf", "(LSoupOrHorses$Camp;LSoupOrHorses$Hearing;II)I"⟩
abbrev cX6_riskiest : ByteArray := prog_8_method_13_code
def yX6_riskiest : MethodName := ⟨RX6, "riskiest", "(LSoupOrHorses$Camp;LSoupOrHorses$Hearing;I)I"⟩
abbrev cX6_nextBits : ByteArray := prog_8_method_14_code
def yX6_nextBits : MethodName := ⟨RX6, "nextBits", "(LSoupOrHorses$Camp;LSoupOrHorses$Hearing;I)I"⟩
abbrev cX6_nextBit : ByteArray := prog_8_method_15_code
def yX6_nextBit : MethodName := ⟨RX6, "nextBit", "(LSoupOrHorses$Camp;III)I"⟩
abbrev cX6_areMixed : ByteArray := prog_8_method_16_code
def yX6_areMixed : MethodName := ⟨RX6, "areMixed", "(LSoupOrHorses$Camp;LSoupOrHorses$Hearing;III)Z"⟩
abbrev cX6_countMixed : ByteArray := prog_8_method_17_code
def yX6_countMixed : MethodName := ⟨RX6, "countMixed", "(LSoupOrHorses$Camp;LSoupOrHorses$Hearing;I)I"⟩
abbrev cX6_firstMixed : ByteArray := prog_8_method_18_code
def yX6_firstMixed : MethodName := ⟨RX6, "firstMixed", "(LSoupOrHorses$Camp;LSoupOrHorses$Hearing;I)I"⟩
abbrev cX6_differences : ByteArray := prog_8_method_19_code
def yX6_differences : MethodName := ⟨RX6, "differences", "(LSoupOrHorses$Camp;LSoupOrHorses$Hearing;I)I"⟩
abbrev cX6_nearestCall : ByteArray := prog_8_method_20_code
def yX6_nearestCall : MethodName := ⟨RX6, "nearestCall", "(LSoupOrHorses$Camp;LSoupOrHorses$Hearing;)I"⟩
abbrev cX6_whenSure : ByteArray := prog_8_method_21_code
def yX6_whenSure : MethodName := ⟨RX6, "whenSure", "(LSoupOrHorses$Camp;LSoupOrHorses$Hearing;I)I"⟩
def RX7 : String := "SoupOrHorses$Shelf"
def TX7 : u_T := fun k => match k with
  | 0 => ("SoupOrHorses$Shelf", "elements", "[J", true)
  | 1 => ("SoupOrHorses$Shelf", "content", "I", false)
  | _ => ("SoupOrHorses$Shelf", "size", "I", false)
def tyX7 : Nat → FieldType := fun k => match k with
  | 0 => .array .long
  | 1 => .int
  | _ => .int
theorem nmX7 : ∀ a, a < 3 → ∀ b, b < 3 → a ≠ b → (TX7 a).2.1 ≠ (TX7 b).2.1 := by decide +kernel
theorem tyX7_ok : ∀ k, k < 3 → parseFieldDescriptor (TX7 k).2.2.1 = some (tyX7 k) := by decide +kernel
abbrev cX7_init : ByteArray := prog_9_method_1_code
def yX7_init : MethodName := ⟨RX7, "<init>", "()V"⟩
abbrev cX7_hasRow : ByteArray := prog_9_method_2_code
def yX7_hasRow : MethodName := ⟨RX7, "hasRow", "()Z"⟩
abbrev cX7_hasEar : ByteArray := prog_9_method_3_code
def yX7_hasEar : MethodName := ⟨RX7, "hasEar", "()Z"⟩
abbrev cX7_whyNoRow : ByteArray := prog_9_method_4_code
def yX7_whyNoRow : MethodName := ⟨RX7, "whyNoRow", "()I"⟩
abbrev cX7_earNumber : ByteArray := prog_9_method_5_code
def yX7_earNumber : MethodName := ⟨RX7, "earNumber", "()I"⟩
abbrev cX7_clear : ByteArray := prog_9_method_6_code
def yX7_clear : MethodName := ⟨RX7, "clear", "()V"⟩
abbrev cX7_putEar : ByteArray := prog_9_method_7_code
def yX7_putEar : MethodName := ⟨RX7, "putEar", "(I)V"⟩
abbrev cX7_putRow : ByteArray := prog_9_method_8_code
def yX7_putRow : MethodName := ⟨RX7, "putRow", "(II)V"⟩
abbrev cX7_putHearing : ByteArray := prog_9_method_9_code
def yX7_putHearing : MethodName := ⟨RX7, "putHearing", "(LSoupOrHorses$Hearing;)V"⟩
abbrev cX7_hasPlaces : ByteArray := prog_9_method_10_code
def yX7_hasPlaces : MethodName := ⟨RX7, "hasPlaces", "(II)Z"⟩
abbrev cX7_elementAt : ByteArray := prog_9_method_11_code
def yX7_elementAt : MethodName := ⟨RX7, "elementAt", "(I)J"⟩
abbrev cX7_putElement : ByteArray := prog_9_method_12_code
def yX7_putElement : MethodName := ⟨RX7, "putElement", "(IJ)V"⟩
abbrev cX7_lowestBits : ByteArray := prog_9_method_13_code
def yX7_lowestBits : MethodName := ⟨RX7, "lowestBits", "(J)J"⟩
abbrev cX7_takeElements : ByteArray := prog_9_method_14_code
def yX7_takeElements : MethodName := ⟨RX7, "takeElements", "(LSoupOrHorses$Shelf;III)V"⟩
abbrev cX7_startsWithNotes : ByteArray := prog_9_method_15_code
def yX7_startsWithNotes : MethodName := ⟨RX7, "startsWithNotes", "(I)Z"⟩
abbrev cX7_firstUnheard : ByteArray := prog_9_method_16_code
def yX7_firstUnheard : MethodName := ⟨RX7, "firstUnheard", "(I)I"⟩
def RX8 : String := "SoupOrHorses$Tape"
def TX8 : u_T := fun k => match k with
  | 0 => ("SoupOrHorses$Tape", "bytes", "[I", true)
  | 1 => ("SoupOrHorses$Tape", "size", "I", false)
  | 2 => ("SoupOrHorses$Tape", "start", "I", false)
  | _ => ("SoupOrHorses$Tape", "end", "I", false)
def tyX8 : Nat → FieldType := fun k => match k with
  | 0 => .array .int
  | 1 => .int
  | 2 => .int
  | _ => .int
theorem nmX8 : ∀ a, a < 4 → ∀ b, b < 4 → a ≠ b → (TX8 a).2.1 ≠ (TX8 b).2.1 := by decide +kernel
theorem tyX8_ok : ∀ k, k < 4 → parseFieldDescriptor (TX8 k).2.2.1 = some (tyX8 k) := by decide +kernel
abbrev cX8_init : ByteArray := prog_10_method_1_code
def yX8_init : MethodName := ⟨RX8, "<init>", "()V"⟩
abbrev cX8_hasRoom : ByteArray := prog_10_method_2_code
def yX8_hasRoom : MethodName := ⟨RX8, "hasRoom", "()Z"⟩
abbrev cX8_append : ByteArray := prog_10_method_3_code
def yX8_append : MethodName := ⟨RX8, "append", "(I)I"⟩
abbrev cX8_empty : ByteArray := prog_10_method_4_code
def yX8_empty : MethodName := ⟨RX8, "empty", "()I"⟩
abbrev cX8_byteAt : ByteArray := prog_10_method_5_code
def yX8_byteAt : MethodName := ⟨RX8, "byteAt", "(I)I"⟩
abbrev cX8_isLetter : ByteArray := prog_10_method_6_code
def yX8_isLetter : MethodName := ⟨RX8, "isLetter", "(I)Z"⟩
abbrev cX8_isDigit : ByteArray := prog_10_method_7_code
def yX8_isDigit : MethodName := ⟨RX8, "isDigit", "(I)Z"⟩
abbrev cX8_toFirstToken : ByteArray := prog_10_method_8_code
def yX8_toFirstToken : MethodName := ⟨RX8, "toFirstToken", "()V"⟩
abbrev cX8_toNextToken : ByteArray := prog_10_method_9_code
def yX8_toNextToken : MethodName := ⟨RX8, "toNextToken", "()V"⟩
abbrev cX8_isAtEnd : ByteArray := prog_10_method_10_code
def yX8_isAtEnd : MethodName := ⟨RX8, "isAtEnd", "()Z"⟩
abbrev cX8_isAtSign : ByteArray := prog_10_method_11_code
def yX8_isAtSign : MethodName := ⟨RX8, "isAtSign", "()Z"⟩
abbrev cX8_isAtWord : ByteArray := prog_10_method_12_code
def yX8_isAtWord : MethodName := ⟨RX8, "isAtWord", "(Ljava/lang/String;)Z"⟩
abbrev cX8_countTextNotes : ByteArray := prog_10_method_13_code
def yX8_countTextNotes : MethodName := ⟨RX8, "countTextNotes", "()I"⟩
abbrev cX8_textNote : ByteArray := prog_10_method_14_code
def yX8_textNote : MethodName := ⟨RX8, "textNote", "(I)I"⟩
abbrev cX8_numberHere : ByteArray := prog_10_method_15_code
def yX8_numberHere : MethodName := ⟨RX8, "numberHere", "()I"⟩
def RX9 : String := "SoupOrHorses"
def TX9 : u_T := fun k => match k with
  | 0 => ("SoupOrHorses", "now", "LSoupOrHorses$Camp;", true)
  | 1 => ("SoupOrHorses", "kept", "LSoupOrHorses$Camp;", true)
  | 2 => ("SoupOrHorses", "draft", "LSoupOrHorses$Camp;", true)
  | 3 => ("SoupOrHorses", "isKept", "Z", false)
  | 4 => ("SoupOrHorses", "shelves", "[LSoupOrHorses$Shelf;", true)
  | 5 => ("SoupOrHorses", "tape", "LSoupOrHorses$Tape;", true)
  | 6 => ("SoupOrHorses", "hearing", "LSoupOrHorses$Hearing;", true)
  | 7 => ("SoupOrHorses", "crowd", "LSoupOrHorses$Crowd;", true)
  | 8 => ("SoupOrHorses", "likeness", "LSoupOrHorses$Likeness;", true)
  | _ => ("SoupOrHorses", "refusals", "[I", true)
def tyX9 : Nat → FieldType := fun k => match k with
  | 0 => .object "SoupOrHorses$Camp"
  | 1 => .object "SoupOrHorses$Camp"
  | 2 => .object "SoupOrHorses$Camp"
  | 3 => .boolean
  | 4 => .array (.object "SoupOrHorses$Shelf")
  | 5 => .object "SoupOrHorses$Tape"
  | 6 => .object "SoupOrHorses$Hearing"
  | 7 => .object "SoupOrHorses$Crowd"
  | 8 => .object "SoupOrHorses$Likeness"
  | _ => .array .int
theorem nmX9 : ∀ a, a < 10 → ∀ b, b < 10 → a ≠ b → (TX9 a).2.1 ≠ (TX9 b).2.1 := by decide +kernel
theorem tyX9_ok : ∀ k, k < 10 → parseFieldDescriptor (TX9 k).2.2.1 = some (tyX9 k) := by decide +kernel
abbrev cX9_init : ByteArray := prog_1_method_1_code
def yX9_init : MethodName := ⟨RX9, "<init>", "()V"⟩
abbrev cX9_row : ByteArray := prog_1_method_2_code
def yX9_row : MethodName := ⟨RX9, "row", "(III)I"⟩
abbrev cX9_set : ByteArray := prog_1_method_3_code
def yX9_set : MethodName := ⟨RX9, "set", "(IIJ)I"⟩
abbrev cX9_copy : ByteArray := prog_1_method_4_code
def yX9_copy : MethodName := ⟨RX9, "copy", "(IIIII)I"⟩
abbrev cX9_element : ByteArray := prog_1_method_5_code
def yX9_element : MethodName := ⟨RX9, "element", "(II)J"⟩
abbrev cX9_holds : ByteArray := prog_1_method_6_code
def yX9_holds : MethodName := ⟨RX9, "holds", "(I)I"⟩
abbrev cX9_show : ByteArray := prog_1_method_7_code
def yX9_show : MethodName := ⟨RX9, "show", "(II)I"⟩
abbrev cX9_says : ByteArray := prog_1_method_8_code
def yX9_says : MethodName := ⟨RX9, "says", "(II)I"⟩
abbrev cX9_call : ByteArray := prog_1_method_9_code
def yX9_call : MethodName := ⟨RX9, "call", "(IIII)I"⟩
abbrev cX9_ear : ByteArray := prog_1_method_10_code
def yX9_ear : MethodName := ⟨RX9, "ear", "(II)I"⟩
abbrev cX9_man : ByteArray := prog_1_method_11_code
def yX9_man : MethodName := ⟨RX9, "man", "(II)I"⟩
abbrev cX9_tell : ByteArray := prog_1_method_12_code
def yX9_tell : MethodName := ⟨RX9, "tell", "(III)I"⟩
abbrev cX9_ask : ByteArray := prog_1_method_13_code
def yX9_ask : MethodName := ⟨RX9, "ask", "(II)I"⟩
abbrev cX9_feed : ByteArray := prog_1_method_14_code
def yX9_feed : MethodName := ⟨RX9, "feed", "(I)I"⟩
abbrev cX9_wipe : ByteArray := prog_1_method_15_code
def yX9_wipe : MethodName := ⟨RX9, "wipe", "()I"⟩
abbrev cX9_camp : ByteArray := prog_1_method_16_code
def yX9_camp : MethodName := ⟨RX9, "camp", "()I"⟩
abbrev cX9_callOf : ByteArray := prog_1_method_17_code
def yX9_callOf : MethodName := ⟨RX9, "callOf", "(II)I"⟩
abbrev cX9_earOf : ByteArray := prog_1_method_18_code
def yX9_earOf : MethodName := ⟨RX9, "earOf", "(II)I"⟩
abbrev cX9_manOf : ByteArray := prog_1_method_19_code
def yX9_manOf : MethodName := ⟨RX9, "manOf", "(II)I"⟩
abbrev cX9_heard : ByteArray := prog_1_method_20_code
def yX9_heard : MethodName := ⟨RX9, "heard", "(III)I"⟩
abbrev cX9_fits : ByteArray := prog_1_method_21_code
def yX9_fits : MethodName := ⟨RX9, "fits", "(IIZII)I"⟩
abbrev cX9_likely : ByteArray := prog_1_method_22_code
def yX9_likely : MethodName := ⟨RX9, "likely", "(IIZII)I"⟩
abbrev cX9_guess : ByteArray := prog_1_method_23_code
def yX9_guess : MethodName := ⟨RX9, "guess", "(IIZI)I"⟩
abbrev cX9_apart : ByteArray := prog_1_method_24_code
def yX9_apart : MethodName := ⟨RX9, "apart", "(II)I"⟩
abbrev cX9_known : ByteArray := prog_1_method_25_code
def yX9_known : MethodName := ⟨RX9, "known", "(II)I"⟩
abbrev cX9_earFor : ByteArray := prog_1_method_26_code
def yX9_earFor : MethodName := ⟨RX9, "earFor", "(I)I"⟩
abbrev cX9_mean : ByteArray := prog_1_method_27_code
def yX9_mean : MethodName := ⟨RX9, "mean", "(I)I"⟩
abbrev cX9_worst : ByteArray := prog_1_method_28_code
def yX9_worst : MethodName := ⟨RX9, "worst", "(I)I"⟩
abbrev cX9_next : ByteArray := prog_1_method_29_code
def yX9_next : MethodName := ⟨RX9, "next", "(III)I"⟩
abbrev cX9_alikeFirst : ByteArray := prog_1_method_30_code
def yX9_alikeFirst : MethodName := ⟨RX9, "alikeFirst", "(II)I"⟩
abbrev cX9_notes : ByteArray := prog_1_method_31_code
def yX9_notes : MethodName := ⟨RX9, "notes", "(I)I"⟩
abbrev cX9_twins : ByteArray := prog_1_method_32_code
def yX9_twins : MethodName := ⟨RX9, "twins", "()I"⟩
abbrev cX9_change : ByteArray := prog_1_method_33_code
def yX9_change : MethodName := ⟨RX9, "change", "(II)I"⟩
abbrev cX9_alike : ByteArray := prog_1_method_34_code
def yX9_alike : MethodName := ⟨RX9, "alike", "(I)I"⟩
abbrev cX9_mixed : ByteArray := prog_1_method_35_code
def yX9_mixed : MethodName := ⟨RX9, "mixed", "(II)I"⟩
abbrev cX9_fresh : ByteArray := prog_1_method_36_code
def yX9_fresh : MethodName := ⟨RX9, "fresh", "(II)I"⟩
abbrev cX9_keep : ByteArray := prog_1_method_37_code
def yX9_keep : MethodName := ⟨RX9, "keep", "(I)I"⟩
abbrev cX9_does : ByteArray := prog_1_method_38_code
def yX9_does : MethodName := ⟨RX9, "does", "(II)I"⟩
abbrev cX9_right : ByteArray := prog_1_method_39_code
def yX9_right : MethodName := ⟨RX9, "right", "(I)I"⟩
abbrev cX9_leads : ByteArray := prog_1_method_40_code
def yX9_leads : MethodName := ⟨RX9, "leads", "(I)I"⟩
abbrev cX9_follows : ByteArray := prog_1_method_41_code
def yX9_follows : MethodName := ⟨RX9, "follows", "(I)I"⟩
abbrev cX9_sureFor : ByteArray := prog_1_method_42_code
def yX9_sureFor : MethodName := ⟨RX9, "sureFor", "(I)I"⟩
abbrev cX9_risk : ByteArray := prog_1_method_43_code
def yX9_risk : MethodName := ⟨RX9, "risk", "(II)I"⟩
abbrev cX9_learn : ByteArray := prog_1_method_44_code
def yX9_learn : MethodName := ⟨RX9, "learn", "(I)I"⟩
abbrev cX9_nearest : ByteArray := prog_1_method_45_code
def yX9_nearest : MethodName := ⟨RX9, "nearest", "(III)I"⟩
abbrev cX9_judge : ByteArray := prog_1_method_46_code
def yX9_judge : MethodName := ⟨RX9, "judge", "(II)I"⟩
abbrev cX9_when : ByteArray := prog_1_method_47_code
def yX9_when : MethodName := ⟨RX9, "when", "(III)I"⟩
abbrev cX9_sound : ByteArray := prog_1_method_48_code
def yX9_sound : MethodName := ⟨RX9, "sound", "(II)I"⟩
abbrev cX9_days : ByteArray := prog_1_method_49_code
def yX9_days : MethodName := ⟨RX9, "days", "(I)I"⟩
abbrev cX9_drop : ByteArray := prog_1_method_50_code
def yX9_drop : MethodName := ⟨RX9, "drop", "()I"⟩
abbrev cX9_seed : ByteArray := prog_1_method_51_code
def yX9_seed : MethodName := ⟨RX9, "seed", "(I)I"⟩
abbrev cX9_image : ByteArray := prog_1_method_52_code
def yX9_image : MethodName := ⟨RX9, "image", "()I"⟩
abbrev cX9_back : ByteArray := prog_1_method_53_code
def yX9_back : MethodName := ⟨RX9, "back", "()I"⟩
abbrev cX9_status : ByteArray := prog_1_method_54_code
def yX9_status : MethodName := ⟨RX9, "status", "(I)I"⟩
abbrev cX9_refuse : ByteArray := prog_1_method_55_code
def yX9_refuse : MethodName := ⟨RX9, "refuse", "(I)I"⟩
abbrev cX9_shelfAt : ByteArray := prog_1_method_56_code
def yX9_shelfAt : MethodName := ⟨RX9, "shelfAt", "(I)LSoupOrHorses$Shelf;"⟩
abbrev cX9_countFilledShelves : ByteArray := prog_1_method_57_code
def yX9_countFilledShelves : MethodName := ⟨RX9, "countFilledShelves", "()I"⟩
abbrev cX9_isDistance : ByteArray := prog_1_method_58_code
def yX9_isDistance : MethodName := ⟨RX9, "isDistance", "(I)Z"⟩
abbrev cX9_takeHearing : ByteArray := prog_1_method_59_code
def yX9_takeHearing : MethodName := ⟨RX9, "takeHearing", "(IIZZ)I"⟩
def RX10 : String := "SoupOrHorsesModel"
def TX10 : u_T := fun k => match k with
  | 0 => ("SoupOrHorsesModel", "shelf", "[I", true)
  | 1 => ("SoupOrHorsesModel", "rowSort", "[I", true)
  | 2 => ("SoupOrHorsesModel", "rowSize", "[I", true)
  | 3 => ("SoupOrHorsesModel", "rows", "[[J", true)
  | 4 => ("SoupOrHorsesModel", "moved", "[J", true)
  | 5 => ("SoupOrHorsesModel", "shown", "[I", true)
  | 6 => ("SoupOrHorsesModel", "tape", "[I", true)
  | 7 => ("SoupOrHorsesModel", "tapeSize", "I", false)
  | 8 => ("SoupOrHorsesModel", "refused", "[I", true)
  | 9 => ("SoupOrHorsesModel", "calls", "I", false)
  | 10 => ("SoupOrHorsesModel", "notes", "[[I", true)
  | 11 => ("SoupOrHorsesModel", "size", "[I", true)
  | 12 => ("SoupOrHorsesModel", "use", "[I", true)
  | 13 => ("SoupOrHorsesModel", "cost", "[I", true)
  | 14 => ("SoupOrHorsesModel", "ears", "I", false)
  | 15 => ("SoupOrHorsesModel", "kind", "[I", true)
  | 16 => ("SoupOrHorsesModel", "by", "[I", true)
  | 17 => ("SoupOrHorsesModel", "men", "I", false)
  | 18 => ("SoupOrHorsesModel", "earOf", "[I", true)
  | 19 => ("SoupOrHorsesModel", "looks", "[I", true)
  | 20 => ("SoupOrHorsesModel", "sure", "I", false)
  | 21 => ("SoupOrHorsesModel", "lost", "I", false)
  | 22 => ("SoupOrHorsesModel", "seed", "I", false)
  | 23 => ("SoupOrHorsesModel", "kept", "LSoupOrHorsesModel;", false)
  | 24 => ("SoupOrHorsesModel", "tried", "LSoupOrHorsesModel;", false)
  | 25 => ("SoupOrHorsesModel", "at", "I", false)
  | 26 => ("SoupOrHorsesModel", "token", "I", false)
  | 27 => ("SoupOrHorsesModel", "from", "I", false)
  | 28 => ("SoupOrHorsesModel", "figures", "I", false)
  | 29 => ("SoupOrHorsesModel", "fault", "I", false)
  | 30 => ("SoupOrHorsesModel", "told", "[I", true)
  | 31 => ("SoupOrHorsesModel", "statements", "I", false)
  | 32 => ("SoupOrHorsesModel", "hearing", "[J", true)
  | 33 => ("SoupOrHorsesModel", "much", "I", false)
  | 34 => ("SoupOrHorsesModel", "isOver", "Z", false)
  | 35 => ("SoupOrHorsesModel", "row", "[I", true)
  | 36 => ("SoupOrHorsesModel", "doing", "[I", true)
  | _ => ("SoupOrHorsesModel", "own", "[I", true)
def tyX10 : Nat → FieldType := fun k => match k with
  | 0 => .array .int
  | 1 => .array .int
  | 2 => .array .int
  | 3 => .array (.array .long)
  | 4 => .array .long
  | 5 => .array .int
  | 6 => .array .int
  | 7 => .int
  | 8 => .array .int
  | 9 => .int
  | 10 => .array (.array .int)
  | 11 => .array .int
  | 12 => .array .int
  | 13 => .array .int
  | 14 => .int
  | 15 => .array .int
  | 16 => .array .int
  | 17 => .int
  | 18 => .array .int
  | 19 => .array .int
  | 20 => .int
  | 21 => .int
  | 22 => .int
  | 23 => .object "SoupOrHorsesModel"
  | 24 => .object "SoupOrHorsesModel"
  | 25 => .int
  | 26 => .int
  | 27 => .int
  | 28 => .int
  | 29 => .int
  | 30 => .array .int
  | 31 => .int
  | 32 => .array .long
  | 33 => .int
  | 34 => .boolean
  | 35 => .array .int
  | 36 => .array .int
  | _ => .array .int
theorem nmX10 : ∀ a, a < 38 → ∀ b, b < 38 → a ≠ b → (TX10 a).2.1 ≠ (TX10 b).2.1 := by decide +kernel
theorem tyX10_ok : ∀ k, k < 38 → parseFieldDescriptor (TX10 k).2.2.1 = some (tyX10 k) := by decide +kernel
abbrev cX10_init : ByteArray := prog_12_method_1_code
def yX10_init : MethodName := ⟨RX10, "<init>", "()V"⟩
abbrev cX10_refuse : ByteArray := prog_12_method_2_code
def yX10_refuse : MethodName := ⟨RX10, "refuse", "(I)I"⟩
abbrev cX10_in : ByteArray := prog_12_method_3_code
def yX10_in : MethodName := ⟨RX10, "in", "(JJJ)Z"⟩
abbrev cX10_isCall : ByteArray := prog_12_method_4_code
def yX10_isCall : MethodName := ⟨RX10, "isCall", "(I)Z"⟩
abbrev cX10_isEar : ByteArray := prog_12_method_5_code
def yX10_isEar : MethodName := ⟨RX10, "isEar", "(I)Z"⟩
abbrev cX10_isMan : ByteArray := prog_12_method_6_code
def yX10_isMan : MethodName := ⟨RX10, "isMan", "(I)Z"⟩
abbrev cX10_has : ByteArray := prog_12_method_7_code
def yX10_has : MethodName := ⟨RX10, "has", "(II)Z"⟩
abbrev cX10_row : ByteArray := prog_12_method_8_code
def yX10_row : MethodName := ⟨RX10, "row", "(III)I"⟩
abbrev cX10_becomesRow : ByteArray := prog_12_method_9_code
def yX10_becomesRow : MethodName := ⟨RX10, "becomesRow", "(III)V"⟩
abbrev cX10_fit : ByteArray := prog_12_method_10_code
def yX10_fit : MethodName := ⟨RX10, "fit", "(IJ)J"⟩
abbrev cX10_noRow : ByteArray := prog_12_method_11_code
def yX10_noRow : MethodName := ⟨RX10, "noRow", "(I)I"⟩
abbrev cX10_set : ByteArray := prog_12_method_12_code
def yX10_set : MethodName := ⟨RX10, "set", "(IIJ)I"⟩
abbrev cX10_copy : ByteArray := prog_12_method_13_code
def yX10_copy : MethodName := ⟨RX10, "copy", "(IIIII)I"⟩
abbrev cX10_element : ByteArray := prog_12_method_14_code
def yX10_element : MethodName := ⟨RX10, "element", "(II)J"⟩
abbrev cX10_holds : ByteArray := prog_12_method_15_code
def yX10_holds : MethodName := ⟨RX10, "holds", "(I)I"⟩
abbrev cX10_show : ByteArray := prog_12_method_16_code
def yX10_show : MethodName := ⟨RX10, "show", "(II)I"⟩
abbrev cX10_isUnder : ByteArray := prog_12_method_17_code
def yX10_isUnder : MethodName := ⟨RX10, "isUnder", "(II)Z"⟩
abbrev cX10_says : ByteArray := prog_12_method_18_code
def yX10_says : MethodName := ⟨RX10, "says", "(II)I"⟩
abbrev cX10_addCall : ByteArray := prog_12_method_19_code
def yX10_addCall : MethodName := ⟨RX10, "addCall", "(III)V"⟩
abbrev cX10_call : ByteArray := prog_12_method_20_code
def yX10_call : MethodName := ⟨RX10, "call", "(IIII)I"⟩
abbrev cX10_addEar : ByteArray := prog_12_method_21_code
def yX10_addEar : MethodName := ⟨RX10, "addEar", "(II)V"⟩
abbrev cX10_ear : ByteArray := prog_12_method_22_code
def yX10_ear : MethodName := ⟨RX10, "ear", "(II)I"⟩
abbrev cX10_addMan : ByteArray := prog_12_method_23_code
def yX10_addMan : MethodName := ⟨RX10, "addMan", "(II)V"⟩
abbrev cX10_man : ByteArray := prog_12_method_24_code
def yX10_man : MethodName := ⟨RX10, "man", "(II)I"⟩
abbrev cX10_tell : ByteArray := prog_12_method_25_code
def yX10_tell : MethodName := ⟨RX10, "tell", "(III)I"⟩
abbrev cX10_ask : ByteArray := prog_12_method_26_code
def yX10_ask : MethodName := ⟨RX10, "ask", "(II)I"⟩
abbrev cX10_feed : ByteArray := prog_12_method_27_code
def yX10_feed : MethodName := ⟨RX10, "feed", "(I)I"⟩
abbrev cX10_wipe : ByteArray := prog_12_method_28_code
def yX10_wipe : MethodName := ⟨RX10, "wipe", "()I"⟩
abbrev cX10_isLetter : ByteArray := prog_12_method_29_code
def yX10_isLetter : MethodName := ⟨RX10, "isLetter", "(I)Z"⟩
abbrev cX10_isDigit : ByteArray := prog_12_method_30_code
def yX10_isDigit : MethodName := ⟨RX10, "isDigit", "(I)Z"⟩
abbrev cX10_token : ByteArray := prog_12_method_31_code
def yX10_token : MethodName := ⟨RX10, "token", "()V"⟩
abbrev cX10_wrong : ByteArray := prog_12_method_32_code
def yX10_wrong : MethodName := ⟨RX10, "wrong", "()Z"⟩
abbrev cX10_isWord : ByteArray := prog_12_method_33_code
def yX10_isWord : MethodName := ⟨RX10, "isWord", "(Ljava/lang/String;)Z"⟩
abbrev cX10_number : ByteArray := prog_12_method_34_code
def yX10_number : MethodName := ⟨RX10, "number", "(III)Z"⟩
abbrev cX10_tells : ByteArray := prog_12_method_35_code
def yX10_tells : MethodName := ⟨RX10, "tells", "(II)Z"⟩
abbrev cX10_callTold : ByteArray := prog_12_method_36_code
def yX10_callTold : MethodName := ⟨RX10, "callTold", "()Z"⟩
abbrev cX10_statement : ByteArray := prog_12_method_37_code
def yX10_statement : MethodName := ⟨RX10, "statement", "()Z"⟩
abbrev cX10_readAll : ByteArray := prog_12_method_38_code
def yX10_readAll : MethodName := ⟨RX10, "readAll", "()Z"⟩
abbrev cX10_fresh : ByteArray := prog_12_method_39_code
def yX10_fresh : MethodName := ⟨RX10, "fresh", "()LSoupOrHorsesModel;"⟩
abbrev cX10_camp : ByteArray := prog_12_method_40_code
def yX10_camp : MethodName := ⟨RX10, "camp", "()I"⟩
abbrev cX10_callOf : ByteArray := prog_12_method_41_code
def yX10_callOf : MethodName := ⟨RX10, "callOf", "(II)I"⟩
abbrev cX10_earOf : ByteArray := prog_12_method_42_code
def yX10_earOf : MethodName := ⟨RX10, "earOf", "(II)I"⟩
abbrev cX10_manOf : ByteArray := prog_12_method_43_code
def yX10_manOf : MethodName := ⟨RX10, "manOf", "(II)I"⟩
abbrev cX10_isTorn : ByteArray := prog_12_method_44_code
def yX10_isTorn : MethodName := ⟨RX10, "isTorn", "(III)Z"⟩
abbrev cX10_isEchoed : ByteArray := prog_12_method_45_code
def yX10_isEchoed : MethodName := ⟨RX10, "isEchoed", "(II)Z"⟩
abbrev cX10_hears : ByteArray := prog_12_method_46_code
def yX10_hears : MethodName := ⟨RX10, "hears", "(III)I"⟩
abbrev cX10_heard : ByteArray := prog_12_method_47_code
def yX10_heard : MethodName := ⟨RX10, "heard", "(III)I"⟩
abbrev cX10_fitsHearing : ByteArray := prog_12_method_48_code
def yX10_fitsHearing : MethodName := ⟨RX10, "fitsHearing", "(II)Z"⟩
abbrev cX10_hearsOf : ByteArray := prog_12_method_49_code
def yX10_hearsOf : MethodName := ⟨RX10, "hearsOf", "(IIIZ)V"⟩
abbrev cX10_likelyOf : ByteArray := prog_12_method_50_code
def yX10_likelyOf : MethodName := ⟨RX10, "likelyOf", "(II)I"⟩
abbrev cX10_guessOf : ByteArray := prog_12_method_51_code
def yX10_guessOf : MethodName := ⟨RX10, "guessOf", "(I)I"⟩
abbrev cX10_noNotes : ByteArray := prog_12_method_52_code
def yX10_noNotes : MethodName := ⟨RX10, "noNotes", "(II)I"⟩
abbrev cX10_noHearing : ByteArray := prog_12_method_53_code
def yX10_noHearing : MethodName := ⟨RX10, "noHearing", "(IIZZ)I"⟩
abbrev cX10_fits : ByteArray := prog_12_method_54_code
def yX10_fits : MethodName := ⟨RX10, "fits", "(IIZII)I"⟩
abbrev cX10_likely : ByteArray := prog_12_method_55_code
def yX10_likely : MethodName := ⟨RX10, "likely", "(IIZII)I"⟩
abbrev cX10_guess : ByteArray := prog_12_method_56_code
def yX10_guess : MethodName := ⟨RX10, "guess", "(IIZI)I"⟩
abbrev cX10_next : ByteArray := prog_12_method_57_code
def yX10_next : MethodName := ⟨RX10, "next", "(III)I"⟩
abbrev cX10_when : ByteArray := prog_12_method_58_code
def yX10_when : MethodName := ⟨RX10, "when", "(III)I"⟩
abbrev cX10_apartOf : ByteArray := prog_12_method_59_code
def yX10_apartOf : MethodName := ⟨RX10, "apartOf", "(II)I"⟩
abbrev cX10_apart : ByteArray := prog_12_method_60_code
def yX10_apart : MethodName := ⟨RX10, "apart", "(II)I"⟩
abbrev cX10_isAlone : ByteArray := prog_12_method_61_code
def yX10_isAlone : MethodName := ⟨RX10, "isAlone", "(II)Z"⟩
abbrev cX10_knownOf : ByteArray := prog_12_method_62_code
def yX10_knownOf : MethodName := ⟨RX10, "knownOf", "(II)I"⟩
abbrev cX10_known : ByteArray := prog_12_method_63_code
def yX10_known : MethodName := ⟨RX10, "known", "(II)I"⟩
abbrev cX10_behindOf : ByteArray := prog_12_method_64_code
def yX10_behindOf : MethodName := ⟨RX10, "behindOf", "(II)I"⟩
abbrev cX10_earFor : ByteArray := prog_12_method_65_code
def yX10_earFor : MethodName := ⟨RX10, "earFor", "(I)I"⟩
abbrev cX10_uses : ByteArray := prog_12_method_66_code
def yX10_uses : MethodName := ⟨RX10, "uses", "()I"⟩
abbrev cX10_mean : ByteArray := prog_12_method_67_code
def yX10_mean : MethodName := ⟨RX10, "mean", "(I)I"⟩
abbrev cX10_riskOf : ByteArray := prog_12_method_68_code
def yX10_riskOf : MethodName := ⟨RX10, "riskOf", "(II)I"⟩
abbrev cX10_risk : ByteArray := prog_12_method_69_code
def yX10_risk : MethodName := ⟨RX10, "risk", "(II)I"⟩
abbrev cX10_worst : ByteArray := prog_12_method_70_code
def yX10_worst : MethodName := ⟨RX10, "worst", "(I)I"⟩
abbrev cX10_alikeFirst : ByteArray := prog_12_method_71_code
def yX10_alikeFirst : MethodName := ⟨RX10, "alikeFirst", "(II)I"⟩
abbrev cX10_notes : ByteArray := prog_12_method_72_code
def yX10_notes : MethodName := ⟨RX10, "notes", "(I)I"⟩
abbrev cX10_twins : ByteArray := prog_12_method_73_code
def yX10_twins : MethodName := ⟨RX10, "twins", "()I"⟩
abbrev cX10_farFrom : ByteArray := prog_12_method_74_code
def yX10_farFrom : MethodName := ⟨RX10, "farFrom", "(II)I"⟩
abbrev cX10_isFar : ByteArray := prog_12_method_75_code
def yX10_isFar : MethodName := ⟨RX10, "isFar", "(III)Z"⟩
abbrev cX10_becomes : ByteArray := prog_12_method_76_code
def yX10_becomes : MethodName := ⟨RX10, "becomes", "(II)I"⟩
abbrev cX10_change : ByteArray := prog_12_method_77_code
def yX10_change : MethodName := ⟨RX10, "change", "(II)I"⟩
abbrev cX10_alike : ByteArray := prog_12_method_78_code
def yX10_alike : MethodName := ⟨RX10, "alike", "(I)I"⟩
abbrev cX10_mixed : ByteArray := prog_12_method_79_code
def yX10_mixed : MethodName := ⟨RX10, "mixed", "(II)I"⟩
abbrev cX10_fresh_ : ByteArray := prog_12_method_80_code
def yX10_fresh_ : MethodName := ⟨RX10, "fresh", "(II)I"⟩
abbrev cX10_areApart : ByteArray := prog_12_method_81_code
def yX10_areApart : MethodName := ⟨RX10, "areApart", "(II)Z"⟩
abbrev cX10_keep : ByteArray := prog_12_method_82_code
def yX10_keep : MethodName := ⟨RX10, "keep", "(I)I"⟩
abbrev cX10_mostDo : ByteArray := prog_12_method_83_code
def yX10_mostDo : MethodName := ⟨RX10, "mostDo", "(I)I"⟩
abbrev cX10_goes : ByteArray := prog_12_method_84_code
def yX10_goes : MethodName := ⟨RX10, "goes", "(I)V"⟩
abbrev cX10_does : ByteArray := prog_12_method_85_code
def yX10_does : MethodName := ⟨RX10, "does", "(II)I"⟩
abbrev cX10_rightOf : ByteArray := prog_12_method_86_code
def yX10_rightOf : MethodName := ⟨RX10, "rightOf", "(I)I"⟩
abbrev cX10_right : ByteArray := prog_12_method_87_code
def yX10_right : MethodName := ⟨RX10, "right", "(I)I"⟩
abbrev cX10_leads : ByteArray := prog_12_method_88_code
def yX10_leads : MethodName := ⟨RX10, "leads", "(I)I"⟩
abbrev cX10_follows : ByteArray := prog_12_method_89_code
def yX10_follows : MethodName := ⟨RX10, "follows", "(I)I"⟩
abbrev cX10_sureFor : ByteArray := prog_12_method_90_code
def yX10_sureFor : MethodName := ⟨RX10, "sureFor", "(I)I"⟩
abbrev cX10_learn : ByteArray := prog_12_method_91_code
def yX10_learn : MethodName := ⟨RX10, "learn", "(I)I"⟩
abbrev cX10_differs : ByteArray := prog_12_method_92_code
def yX10_differs : MethodName := ⟨RX10, "differs", "(I)I"⟩
abbrev cX10_nearestOf : ByteArray := prog_12_method_93_code
def yX10_nearestOf : MethodName := ⟨RX10, "nearestOf", "()I"⟩
abbrev cX10_nearest : ByteArray := prog_12_method_94_code
def yX10_nearest : MethodName := ⟨RX10, "nearest", "(III)I"⟩
abbrev cX10_judge : ByteArray := prog_12_method_95_code
def yX10_judge : MethodName := ⟨RX10, "judge", "(II)I"⟩
abbrev cX10_below : ByteArray := prog_12_method_96_code
def yX10_below : MethodName := ⟨RX10, "below", "(I)I"⟩
abbrev cX10_sounded : ByteArray := prog_12_method_97_code
def yX10_sounded : MethodName := ⟨RX10, "sounded", "(I)I"⟩
abbrev cX10_sound : ByteArray := prog_12_method_98_code
def yX10_sound : MethodName := ⟨RX10, "sound", "(II)I"⟩
abbrev cX10_days : ByteArray := prog_12_method_99_code
def yX10_days : MethodName := ⟨RX10, "days", "(I)I"⟩
abbrev cX10_drop : ByteArray := prog_12_method_100_code
def yX10_drop : MethodName := ⟨RX10, "drop", "()I"⟩
abbrev cX10_seed : ByteArray := prog_12_method_101_code
def yX10_seed : MethodName := ⟨RX10, "seed", "(I)I"⟩
abbrev cX10_copied : ByteArray := prog_12_method_102_code
def yX10_copied : MethodName := ⟨RX10, "copied", "([I[I)V"⟩
abbrev cX10_takeFrom : ByteArray := prog_12_method_103_code
def yX10_takeFrom : MethodName := ⟨RX10, "takeFrom", "(LSoupOrHorsesModel;)V"⟩
abbrev cX10_image : ByteArray := prog_12_method_104_code
def yX10_image : MethodName := ⟨RX10, "image", "()I"⟩
abbrev cX10_back : ByteArray := prog_12_method_105_code
def yX10_back : MethodName := ⟨RX10, "back", "()I"⟩
abbrev cX10_sumOf : ByteArray := prog_12_method_106_code
def yX10_sumOf : MethodName := ⟨RX10, "sumOf", "([II)I"⟩
abbrev cX10_status : ByteArray := prog_12_method_107_code
def yX10_status : MethodName := ⟨RX10, "status", "(I)I"⟩
def RJ6 : String := "java/lang/Integer"
def TJ6 : u_T := fun k => match k with
  | _ => ("", "", "", false)
def tyJ6 : Nat → FieldType := fun k => match k with
  | _ => .int
theorem nmJ6 : ∀ a, a < 0 → ∀ b, b < 0 → a ≠ b → (TJ6 a).2.1 ≠ (TJ6 b).2.1 := by decide +kernel
theorem tyJ6_ok : ∀ k, k < 0 → parseFieldDescriptor (TJ6 k).2.2.1 = some (tyJ6 k) := by decide +kernel
abbrev cJ6_bitCount_0f7a4 : ByteArray := prog_13_method_49_code
def yJ6_bitCount_0f7a4 : MethodName := ⟨RJ6, "bitCount", "(I)I"⟩
def RJ9 : String := "java/lang/Math"
def TJ9 : u_T := fun k => match k with
  | _ => ("", "", "", false)
def tyJ9 : Nat → FieldType := fun k => match k with
  | _ => .int
theorem nmJ9 : ∀ a, a < 0 → ∀ b, b < 0 → a ≠ b → (TJ9 a).2.1 ≠ (TJ9 b).2.1 := by decide +kernel
theorem tyJ9_ok : ∀ k, k < 0 → parseFieldDescriptor (TJ9 k).2.2.1 = some (tyJ9 k) := by decide +kernel
abbrev cJ9_abs_0f7a4 : ByteArray := prog_14_method_59_code
def yJ9_abs_0f7a4 : MethodName := ⟨RJ9, "abs", "(I)I"⟩
abbrev cJ9_max_7cf53 : ByteArray := prog_14_method_65_code
def yJ9_max_7cf53 : MethodName := ⟨RJ9, "max", "(II)I"⟩
abbrev cJ9_min_7cf53 : ByteArray := prog_14_method_69_code
def yJ9_min_7cf53 : MethodName := ⟨RJ9, "min", "(II)I"⟩
def RJ0 : String := "java/lang/String"
def TJ0 : u_T := fun k => match k with
  | _ => ("", "", "", false)
def tyJ0 : Nat → FieldType := fun k => match k with
  | _ => .int
theorem nmJ0 : ∀ a, a < 0 → ∀ b, b < 0 → a ≠ b → (TJ0 a).2.1 ≠ (TJ0 b).2.1 := by decide +kernel
theorem tyJ0_ok : ∀ k, k < 0 → parseFieldDescriptor (TJ0 k).2.2.1 = some (tyJ0 k) := by decide +kernel
abbrev cJ0_length_8abf5 : ByteArray := prog_15_method_54_code
def yJ0_length_8abf5 : MethodName := ⟨RJ0, "length", "()I"⟩
abbrev cJ0_charAt_5068e : ByteArray := prog_15_method_56_code
def yJ0_charAt_5068e : MethodName := ⟨RJ0, "charAt", "(I)C"⟩
abbrev cJ0_coder_7d493 : ByteArray := prog_15_method_152_code
def yJ0_coder_7d493 : MethodName := ⟨RJ0, "coder", "()B"⟩
abbrev cJ0_isLatin1_aae02 : ByteArray := prog_15_method_154_code
def yJ0_isLatin1_aae02 : MethodName := ⟨RJ0, "isLatin1", "()Z"⟩
abbrev cJ0_checkIndex_df160 : ByteArray := prog_15_method_155_code
def yJ0_checkIndex_df160 : MethodName := ⟨RJ0, "checkIndex", "(II)V"⟩
def RJ1 : String := "java/lang/StringLatin1"
def TJ1 : u_T := fun k => match k with
  | _ => ("", "", "", false)
def tyJ1 : Nat → FieldType := fun k => match k with
  | _ => .int
theorem nmJ1 : ∀ a, a < 0 → ∀ b, b < 0 → a ≠ b → (TJ1 a).2.1 ≠ (TJ1 b).2.1 := by decide +kernel
theorem tyJ1_ok : ∀ k, k < 0 → parseFieldDescriptor (TJ1 k).2.2.1 = some (tyJ1 k) := by decide +kernel
abbrev cJ1_charAt_3b067 : ByteArray := prog_16_method_2_code
def yJ1_charAt_3b067 : MethodName := ⟨RJ1, "charAt", "([BI)C"⟩
def RJ2 : String := "java/lang/StringUTF16"
def TJ2 : u_T := fun k => match k with
  | _ => ("", "", "", false)
def tyJ2 : Nat → FieldType := fun k => match k with
  | _ => .int
theorem nmJ2 : ∀ a, a < 0 → ∀ b, b < 0 → a ≠ b → (TJ2 a).2.1 ≠ (TJ2 b).2.1 := by decide +kernel
theorem tyJ2_ok : ∀ k, k < 0 → parseFieldDescriptor (TJ2 k).2.2.1 = some (tyJ2 k) := by decide +kernel
abbrev cJ2_getChar_3b067 : ByteArray := prog_17_method_5_code
def yJ2_getChar_3b067 : MethodName := ⟨RJ2, "getChar", "([BI)C"⟩
abbrev cJ2_length_9d52b : ByteArray := prog_17_method_6_code
def yJ2_length_9d52b : MethodName := ⟨RJ2, "length", "([B)I"⟩
abbrev cJ2_charAt_3b067 : ByteArray := prog_17_method_83_code
def yJ2_charAt_3b067 : MethodName := ⟨RJ2, "charAt", "([BI)C"⟩
abbrev cJ2_checkIndex_2214a : ByteArray := prog_17_method_91_code
def yJ2_checkIndex_2214a : MethodName := ⟨RJ2, "checkIndex", "(I[B)V"⟩
def RJ10 : String := "java/lang/System"
def TJ10 : u_T := fun k => match k with
  | _ => ("", "", "", false)
def tyJ10 : Nat → FieldType := fun k => match k with
  | _ => .int
theorem nmJ10 : ∀ a, a < 0 → ∀ b, b < 0 → a ≠ b → (TJ10 a).2.1 ≠ (TJ10 b).2.1 := by decide +kernel
theorem tyJ10_ok : ∀ k, k < 0 → parseFieldDescriptor (TJ10 k).2.2.1 = some (tyJ10 k) := by decide +kernel
def RJ7 : String := "java/util/Arrays"
def TJ7 : u_T := fun k => match k with
  | _ => ("", "", "", false)
def tyJ7 : Nat → FieldType := fun k => match k with
  | _ => .int
theorem nmJ7 : ∀ a, a < 0 → ∀ b, b < 0 → a ≠ b → (TJ7 a).2.1 ≠ (TJ7 b).2.1 := by decide +kernel
theorem tyJ7_ok : ∀ k, k < 0 → parseFieldDescriptor (TJ7 k).2.2.1 = some (tyJ7 k) := by decide +kernel
abbrev cJ7_fill_d0a16 : ByteArray := prog_19_method_101_code
def yJ7_fill_d0a16 : MethodName := ⟨RJ7, "fill", "([JJ)V"⟩
abbrev cJ7_fill_53178 : ByteArray := prog_19_method_103_code
def yJ7_fill_53178 : MethodName := ⟨RJ7, "fill", "([II)V"⟩
def RJ3 : String := "jdk/internal/util/Preconditions"
def TJ3 : u_T := fun k => match k with
  | _ => ("", "", "", false)
def tyJ3 : Nat → FieldType := fun k => match k with
  | _ => .int
theorem nmJ3 : ∀ a, a < 0 → ∀ b, b < 0 → a ≠ b → (TJ3 a).2.1 ≠ (TJ3 b).2.1 := by decide +kernel
theorem tyJ3_ok : ∀ k, k < 0 → parseFieldDescriptor (TJ3 k).2.2.1 = some (tyJ3 k) := by decide +kernel
abbrev cJ3_checkIndex_8e157 : ByteArray := prog_20_method_11_code
def yJ3_checkIndex_8e157 : MethodName := ⟨RJ3, "checkIndex", "(IILjava/util/function/BiFunction;)I"⟩
def RL : String := "SoupOrHorsesLaw"
abbrev cL_law : ByteArray := code
def yL_law : MethodName := ⟨RL, "law", "([I)Z"⟩
abbrev vwCl : List vw_C := [(RX0, TX0, 14), (RX1, TX1, 5), (RX2, TX2, 3), (RX4, TX4, 1), (RX7, TX7, 3), (RX8, TX8, 4), (RX9, TX9, 10), (RX10, TX10, 38)]
