-- ===== PART A: goes FIRST, ahead of the names: the tables' words, and 'selects' of the private methods out of them =====
/-- a private method of a class that the tables say can be made, by its rows of tables_1 -/
def lw_okq (q : MethodName × Nat) : Prop := (q.1.cls ≠ "java/lang/invoke/MethodHandle" ∧ q.1.cls ≠ "java/lang/invoke/VarHandle") ∧ Cond.instantiable q.1.cls q.2 ∈ tables_1 ∧ Cond.privateMethod q.1 ∈ tables_1 ∧ Cond.instanceMethod q.1 ∈ tables_1
theorem lw_p0 : lw_okq (⟨"HarbourMud", "refuse", "(I)I"⟩, 8) := ⟨⟨by decide +kernel, by decide +kernel⟩, List.mem_of_getElem? (i := 12) (by decide +kernel), List.mem_of_getElem? (i := 271) (by decide +kernel), List.mem_of_getElem? (i := 272) (by decide +kernel)⟩
theorem lw_p1 : lw_okq (⟨"HarbourMud$CoastText", "readStatement", "()Z"⟩, 12) := ⟨⟨by decide +kernel, by decide +kernel⟩, List.mem_of_getElem? (i := 198) (by decide +kernel), List.mem_of_getElem? (i := 312) (by decide +kernel), List.mem_of_getElem? (i := 313) (by decide +kernel)⟩
theorem lw_p2 : lw_okq (⟨"HarbourMud$CoastText", "byteHere", "()I"⟩, 12) := ⟨⟨by decide +kernel, by decide +kernel⟩, List.mem_of_getElem? (i := 198) (by decide +kernel), List.mem_of_getElem? (i := 316) (by decide +kernel), List.mem_of_getElem? (i := 317) (by decide +kernel)⟩
theorem lw_p3 : lw_okq (⟨"HarbourMud$CoastText", "readNumber", "()Z"⟩, 12) := ⟨⟨by decide +kernel, by decide +kernel⟩, List.mem_of_getElem? (i := 198) (by decide +kernel), List.mem_of_getElem? (i := 320) (by decide +kernel), List.mem_of_getElem? (i := 321) (by decide +kernel)⟩
theorem lw_p4 : lw_okq (⟨"HarbourMud$CoastText", "digitIsHere", "()Z"⟩, 12) := ⟨⟨by decide +kernel, by decide +kernel⟩, List.mem_of_getElem? (i := 198) (by decide +kernel), List.mem_of_getElem? (i := 324) (by decide +kernel), List.mem_of_getElem? (i := 325) (by decide +kernel)⟩
theorem lw_p5 : lw_okq (⟨"HarbourMud$CoastText", "readSign", "(C)Z"⟩, 12) := ⟨⟨by decide +kernel, by decide +kernel⟩, List.mem_of_getElem? (i := 198) (by decide +kernel), List.mem_of_getElem? (i := 328) (by decide +kernel), List.mem_of_getElem? (i := 329) (by decide +kernel)⟩
theorem lw_p6 : lw_okq (⟨"HarbourMud$CoastText", "readDigit", "()Z"⟩, 12) := ⟨⟨by decide +kernel, by decide +kernel⟩, List.mem_of_getElem? (i := 198) (by decide +kernel), List.mem_of_getElem? (i := 332) (by decide +kernel), List.mem_of_getElem? (i := 333) (by decide +kernel)⟩
theorem lw_p7 : lw_okq (⟨"HarbourMud$CoastText", "readKind", "()Z"⟩, 12) := ⟨⟨by decide +kernel, by decide +kernel⟩, List.mem_of_getElem? (i := 198) (by decide +kernel), List.mem_of_getElem? (i := 336) (by decide +kernel), List.mem_of_getElem? (i := 337) (by decide +kernel)⟩
theorem lw_p8 : lw_okq (⟨"HarbourMud$CoastText", "readStuff", "()Z"⟩, 12) := ⟨⟨by decide +kernel, by decide +kernel⟩, List.mem_of_getElem? (i := 198) (by decide +kernel), List.mem_of_getElem? (i := 340) (by decide +kernel), List.mem_of_getElem? (i := 341) (by decide +kernel)⟩
theorem lw_p9 : lw_okq (⟨"HarbourMud$CoastText", "readMoon", "()Z"⟩, 12) := ⟨⟨by decide +kernel, by decide +kernel⟩, List.mem_of_getElem? (i := 198) (by decide +kernel), List.mem_of_getElem? (i := 344) (by decide +kernel), List.mem_of_getElem? (i := 345) (by decide +kernel)⟩
theorem lw_p10 : lw_okq (⟨"HarbourMud$CoastText", "giveTo", "(LHarbourMud$Harbour;)Z"⟩, 12) := ⟨⟨by decide +kernel, by decide +kernel⟩, List.mem_of_getElem? (i := 198) (by decide +kernel), List.mem_of_getElem? (i := 348) (by decide +kernel), List.mem_of_getElem? (i := 349) (by decide +kernel)⟩
theorem lw_p11 : lw_okq (⟨"HarbourMud", "refuseIfBelow0", "(I)I"⟩, 8) := ⟨⟨by decide +kernel, by decide +kernel⟩, List.mem_of_getElem? (i := 12) (by decide +kernel), List.mem_of_getElem? (i := 405) (by decide +kernel), List.mem_of_getElem? (i := 406) (by decide +kernel)⟩
theorem lw_p12 : lw_okq (⟨"HarbourMud", "whyNoRun", "(I)I"⟩, 8) := ⟨⟨by decide +kernel, by decide +kernel⟩, List.mem_of_getElem? (i := 12) (by decide +kernel), List.mem_of_getElem? (i := 529) (by decide +kernel), List.mem_of_getElem? (i := 530) (by decide +kernel)⟩
theorem lw_p13 : lw_okq (⟨"HarbourMud$Harbour", "carry", "(I)V"⟩, 12) := ⟨⟨by decide +kernel, by decide +kernel⟩, List.mem_of_getElem? (i := 20) (by decide +kernel), List.mem_of_getElem? (i := 551) (by decide +kernel), List.mem_of_getElem? (i := 552) (by decide +kernel)⟩
theorem lw_p14 : lw_okq (⟨"HarbourMud$Harbour", "bring", "()V"⟩, 12) := ⟨⟨by decide +kernel, by decide +kernel⟩, List.mem_of_getElem? (i := 20) (by decide +kernel), List.mem_of_getElem? (i := 563) (by decide +kernel), List.mem_of_getElem? (i := 564) (by decide +kernel)⟩
theorem lw_p15 : lw_okq (⟨"HarbourMud$Harbour", "dredge", "(I)V"⟩, 12) := ⟨⟨by decide +kernel, by decide +kernel⟩, List.mem_of_getElem? (i := 20) (by decide +kernel), List.mem_of_getElem? (i := 572) (by decide +kernel), List.mem_of_getElem? (i := 573) (by decide +kernel)⟩
def lw_privs_1 : List (MethodName × Nat) := [(⟨"HarbourMud", "refuse", "(I)I"⟩, 8), (⟨"HarbourMud$CoastText", "readStatement", "()Z"⟩, 12), (⟨"HarbourMud$CoastText", "byteHere", "()I"⟩, 12), (⟨"HarbourMud$CoastText", "readNumber", "()Z"⟩, 12), (⟨"HarbourMud$CoastText", "digitIsHere", "()Z"⟩, 12), (⟨"HarbourMud$CoastText", "readSign", "(C)Z"⟩, 12), (⟨"HarbourMud$CoastText", "readDigit", "()Z"⟩, 12), (⟨"HarbourMud$CoastText", "readKind", "()Z"⟩, 12), (⟨"HarbourMud$CoastText", "readStuff", "()Z"⟩, 12), (⟨"HarbourMud$CoastText", "readMoon", "()Z"⟩, 12), (⟨"HarbourMud$CoastText", "giveTo", "(LHarbourMud$Harbour;)Z"⟩, 12), (⟨"HarbourMud", "refuseIfBelow0", "(I)I"⟩, 8), (⟨"HarbourMud", "whyNoRun", "(I)I"⟩, 8), (⟨"HarbourMud$Harbour", "carry", "(I)V"⟩, 12), (⟨"HarbourMud$Harbour", "bring", "()V"⟩, 12), (⟨"HarbourMud$Harbour", "dredge", "(I)V"⟩, 12)]
theorem lw_r1 : ∀ q ∈ lw_privs_1, lw_okq q := List.forall_mem_cons.mpr ⟨lw_p0, List.forall_mem_cons.mpr ⟨lw_p1, List.forall_mem_cons.mpr ⟨lw_p2, List.forall_mem_cons.mpr ⟨lw_p3, List.forall_mem_cons.mpr ⟨lw_p4, List.forall_mem_cons.mpr ⟨lw_p5, List.forall_mem_cons.mpr ⟨lw_p6, List.forall_mem_cons.mpr ⟨lw_p7, List.forall_mem_cons.mpr ⟨lw_p8, List.forall_mem_cons.mpr ⟨lw_p9, List.forall_mem_cons.mpr ⟨lw_p10, List.forall_mem_cons.mpr ⟨lw_p11, List.forall_mem_cons.mpr ⟨lw_p12, List.forall_mem_cons.mpr ⟨lw_p13, List.forall_mem_cons.mpr ⟨lw_p14, List.forall_mem_cons.mpr ⟨lw_p15, fun _ h => absurd h List.not_mem_nil⟩⟩⟩⟩⟩⟩⟩⟩⟩⟩⟩⟩⟩⟩⟩⟩
theorem lw_p16 : lw_okq (⟨"HarbourMud$Harbour", "dredgeStuff", "(II)V"⟩, 12) := ⟨⟨by decide +kernel, by decide +kernel⟩, List.mem_of_getElem? (i := 20) (by decide +kernel), List.mem_of_getElem? (i := 576) (by decide +kernel), List.mem_of_getElem? (i := 577) (by decide +kernel)⟩
theorem lw_p17 : lw_okq (⟨"HarbourMud", "rowIsOfCells", "()Z"⟩, 8) := ⟨⟨by decide +kernel, by decide +kernel⟩, List.mem_of_getElem? (i := 12) (by decide +kernel), List.mem_of_getElem? (i := 669) (by decide +kernel), List.mem_of_getElem? (i := 670) (by decide +kernel)⟩
theorem lw_p18 : lw_okq (⟨"HarbourMudModel", "refuse", "(I)I"⟩, 55) := ⟨⟨by decide +kernel, by decide +kernel⟩, List.mem_of_getElem? (i := 696) (by decide +kernel), List.mem_of_getElem? (i := 873) (by decide +kernel), List.mem_of_getElem? (i := 874) (by decide +kernel)⟩
theorem lw_p19 : lw_okq (⟨"HarbourMudModel", "addCell", "(II)V"⟩, 55) := ⟨⟨by decide +kernel, by decide +kernel⟩, List.mem_of_getElem? (i := 696) (by decide +kernel), List.mem_of_getElem? (i := 877) (by decide +kernel), List.mem_of_getElem? (i := 878) (by decide +kernel)⟩
theorem lw_p20 : lw_okq (⟨"HarbourMudModel", "isCell", "(I)Z"⟩, 55) := ⟨⟨by decide +kernel, by decide +kernel⟩, List.mem_of_getElem? (i := 696) (by decide +kernel), List.mem_of_getElem? (i := 885) (by decide +kernel), List.mem_of_getElem? (i := 886) (by decide +kernel)⟩
theorem lw_p21 : lw_okq (⟨"HarbourMudModel", "areEnds", "(II)Z"⟩, 55) := ⟨⟨by decide +kernel, by decide +kernel⟩, List.mem_of_getElem? (i := 696) (by decide +kernel), List.mem_of_getElem? (i := 897) (by decide +kernel), List.mem_of_getElem? (i := 898) (by decide +kernel)⟩
theorem lw_p22 : lw_okq (⟨"HarbourMudModel", "partsFrom", "(III)I"⟩, 55) := ⟨⟨by decide +kernel, by decide +kernel⟩, List.mem_of_getElem? (i := 696) (by decide +kernel), List.mem_of_getElem? (i := 901) (by decide +kernel), List.mem_of_getElem? (i := 902) (by decide +kernel)⟩
theorem lw_p23 : lw_okq (⟨"HarbourMudModel", "addWay", "(IIIII)V"⟩, 55) := ⟨⟨by decide +kernel, by decide +kernel⟩, List.mem_of_getElem? (i := 696) (by decide +kernel), List.mem_of_getElem? (i := 905) (by decide +kernel), List.mem_of_getElem? (i := 906) (by decide +kernel)⟩
theorem lw_p24 : lw_okq (⟨"HarbourMudModel", "addRiver", "(III)V"⟩, 55) := ⟨⟨by decide +kernel, by decide +kernel⟩, List.mem_of_getElem? (i := 696) (by decide +kernel), List.mem_of_getElem? (i := 920) (by decide +kernel), List.mem_of_getElem? (i := 921) (by decide +kernel)⟩
theorem lw_p25 : lw_okq (⟨"HarbourMudModel", "depthOf", "(I)I"⟩, 55) := ⟨⟨by decide +kernel, by decide +kernel⟩, List.mem_of_getElem? (i := 696) (by decide +kernel), List.mem_of_getElem? (i := 941) (by decide +kernel), List.mem_of_getElem? (i := 942) (by decide +kernel)⟩
theorem lw_p26 : lw_okq (⟨"HarbourMudModel", "settledIn", "(I)I"⟩, 55) := ⟨⟨by decide +kernel, by decide +kernel⟩, List.mem_of_getElem? (i := 696) (by decide +kernel), List.mem_of_getElem? (i := 945) (by decide +kernel), List.mem_of_getElem? (i := 946) (by decide +kernel)⟩
theorem lw_p27 : lw_okq (⟨"HarbourMudModel", "lacksOf", "(I)I"⟩, 55) := ⟨⟨by decide +kernel, by decide +kernel⟩, List.mem_of_getElem? (i := 696) (by decide +kernel), List.mem_of_getElem? (i := 953) (by decide +kernel), List.mem_of_getElem? (i := 954) (by decide +kernel)⟩
theorem lw_p28 : lw_okq (⟨"HarbourMudModel", "kindAt", "(I)I"⟩, 55) := ⟨⟨by decide +kernel, by decide +kernel⟩, List.mem_of_getElem? (i := 696) (by decide +kernel), List.mem_of_getElem? (i := 967) (by decide +kernel), List.mem_of_getElem? (i := 968) (by decide +kernel)⟩
theorem lw_p29 : lw_okq (⟨"HarbourMudModel", "chosen", "(I)I"⟩, 55) := ⟨⟨by decide +kernel, by decide +kernel⟩, List.mem_of_getElem? (i := 696) (by decide +kernel), List.mem_of_getElem? (i := 971) (by decide +kernel), List.mem_of_getElem? (i := 972) (by decide +kernel)⟩
theorem lw_p30 : lw_okq (⟨"HarbourMudModel", "lackingMost", "()I"⟩, 55) := ⟨⟨by decide +kernel, by decide +kernel⟩, List.mem_of_getElem? (i := 696) (by decide +kernel), List.mem_of_getElem? (i := 975) (by decide +kernel), List.mem_of_getElem? (i := 976) (by decide +kernel)⟩
theorem lw_p31 : lw_okq (⟨"HarbourMudModel", "deepest", "()I"⟩, 55) := ⟨⟨by decide +kernel, by decide +kernel⟩, List.mem_of_getElem? (i := 696) (by decide +kernel), List.mem_of_getElem? (i := 979) (by decide +kernel), List.mem_of_getElem? (i := 980) (by decide +kernel)⟩
def lw_privs_2 : List (MethodName × Nat) := [(⟨"HarbourMud$Harbour", "dredgeStuff", "(II)V"⟩, 12), (⟨"HarbourMud", "rowIsOfCells", "()Z"⟩, 8), (⟨"HarbourMudModel", "refuse", "(I)I"⟩, 55), (⟨"HarbourMudModel", "addCell", "(II)V"⟩, 55), (⟨"HarbourMudModel", "isCell", "(I)Z"⟩, 55), (⟨"HarbourMudModel", "areEnds", "(II)Z"⟩, 55), (⟨"HarbourMudModel", "partsFrom", "(III)I"⟩, 55), (⟨"HarbourMudModel", "addWay", "(IIIII)V"⟩, 55), (⟨"HarbourMudModel", "addRiver", "(III)V"⟩, 55), (⟨"HarbourMudModel", "depthOf", "(I)I"⟩, 55), (⟨"HarbourMudModel", "settledIn", "(I)I"⟩, 55), (⟨"HarbourMudModel", "lacksOf", "(I)I"⟩, 55), (⟨"HarbourMudModel", "kindAt", "(I)I"⟩, 55), (⟨"HarbourMudModel", "chosen", "(I)I"⟩, 55), (⟨"HarbourMudModel", "lackingMost", "()I"⟩, 55), (⟨"HarbourMudModel", "deepest", "()I"⟩, 55)]
theorem lw_r2 : ∀ q ∈ lw_privs_2, lw_okq q := List.forall_mem_cons.mpr ⟨lw_p16, List.forall_mem_cons.mpr ⟨lw_p17, List.forall_mem_cons.mpr ⟨lw_p18, List.forall_mem_cons.mpr ⟨lw_p19, List.forall_mem_cons.mpr ⟨lw_p20, List.forall_mem_cons.mpr ⟨lw_p21, List.forall_mem_cons.mpr ⟨lw_p22, List.forall_mem_cons.mpr ⟨lw_p23, List.forall_mem_cons.mpr ⟨lw_p24, List.forall_mem_cons.mpr ⟨lw_p25, List.forall_mem_cons.mpr ⟨lw_p26, List.forall_mem_cons.mpr ⟨lw_p27, List.forall_mem_cons.mpr ⟨lw_p28, List.forall_mem_cons.mpr ⟨lw_p29, List.forall_mem_cons.mpr ⟨lw_p30, List.forall_mem_cons.mpr ⟨lw_p31, fun _ h => absurd h List.not_mem_nil⟩⟩⟩⟩⟩⟩⟩⟩⟩⟩⟩⟩⟩⟩⟩⟩
theorem lw_p32 : lw_okq (⟨"HarbourMudModel", "wrongTides", "(I)I"⟩, 55) := ⟨⟨by decide +kernel, by decide +kernel⟩, List.mem_of_getElem? (i := 696) (by decide +kernel), List.mem_of_getElem? (i := 987) (by decide +kernel), List.mem_of_getElem? (i := 988) (by decide +kernel)⟩
theorem lw_p33 : lw_okq (⟨"HarbourMudModel", "passTide", "()V"⟩, 55) := ⟨⟨by decide +kernel, by decide +kernel⟩, List.mem_of_getElem? (i := 696) (by decide +kernel), List.mem_of_getElem? (i := 991) (by decide +kernel), List.mem_of_getElem? (i := 992) (by decide +kernel)⟩
theorem lw_p34 : lw_okq (⟨"HarbourMudModel", "flow", "()V"⟩, 55) := ⟨⟨by decide +kernel, by decide +kernel⟩, List.mem_of_getElem? (i := 696) (by decide +kernel), List.mem_of_getElem? (i := 995) (by decide +kernel), List.mem_of_getElem? (i := 996) (by decide +kernel)⟩
theorem lw_p35 : lw_okq (⟨"HarbourMudModel", "take", "(I)V"⟩, 55) := ⟨⟨by decide +kernel, by decide +kernel⟩, List.mem_of_getElem? (i := 696) (by decide +kernel), List.mem_of_getElem? (i := 1000) (by decide +kernel), List.mem_of_getElem? (i := 1001) (by decide +kernel)⟩
theorem lw_p36 : lw_okq (⟨"HarbourMudModel", "costOf", "(I)J"⟩, 55) := ⟨⟨by decide +kernel, by decide +kernel⟩, List.mem_of_getElem? (i := 696) (by decide +kernel), List.mem_of_getElem? (i := 1009) (by decide +kernel), List.mem_of_getElem? (i := 1010) (by decide +kernel)⟩
theorem lw_p37 : lw_okq (⟨"HarbourMudModel", "save", "()V"⟩, 55) := ⟨⟨by decide +kernel, by decide +kernel⟩, List.mem_of_getElem? (i := 696) (by decide +kernel), List.mem_of_getElem? (i := 1013) (by decide +kernel), List.mem_of_getElem? (i := 1014) (by decide +kernel)⟩
theorem lw_p38 : lw_okq (⟨"HarbourMudModel", "costNow", "()I"⟩, 55) := ⟨⟨by decide +kernel, by decide +kernel⟩, List.mem_of_getElem? (i := 696) (by decide +kernel), List.mem_of_getElem? (i := 1017) (by decide +kernel), List.mem_of_getElem? (i := 1018) (by decide +kernel)⟩
theorem lw_p39 : lw_okq (⟨"HarbourMudModel", "feetLacking", "(Z)I"⟩, 55) := ⟨⟨by decide +kernel, by decide +kernel⟩, List.mem_of_getElem? (i := 696) (by decide +kernel), List.mem_of_getElem? (i := 1021) (by decide +kernel), List.mem_of_getElem? (i := 1022) (by decide +kernel)⟩
theorem lw_p40 : lw_okq (⟨"HarbourMudModel", "putBack", "()V"⟩, 55) := ⟨⟨by decide +kernel, by decide +kernel⟩, List.mem_of_getElem? (i := 696) (by decide +kernel), List.mem_of_getElem? (i := 1025) (by decide +kernel), List.mem_of_getElem? (i := 1026) (by decide +kernel)⟩
theorem lw_p41 : lw_okq (⟨"HarbourMudModel", "holdsFor", "(I)I"⟩, 55) := ⟨⟨by decide +kernel, by decide +kernel⟩, List.mem_of_getElem? (i := 696) (by decide +kernel), List.mem_of_getElem? (i := 1033) (by decide +kernel), List.mem_of_getElem? (i := 1034) (by decide +kernel)⟩
theorem lw_p42 : lw_okq (⟨"HarbourMudModel", "tonsAfter", "(IIIII)I"⟩, 55) := ⟨⟨by decide +kernel, by decide +kernel⟩, List.mem_of_getElem? (i := 696) (by decide +kernel), List.mem_of_getElem? (i := 1045) (by decide +kernel), List.mem_of_getElem? (i := 1046) (by decide +kernel)⟩
theorem lw_p43 : lw_okq (⟨"HarbourMudModel", "settledAfter", "(II)I"⟩, 55) := ⟨⟨by decide +kernel, by decide +kernel⟩, List.mem_of_getElem? (i := 696) (by decide +kernel), List.mem_of_getElem? (i := 1069) (by decide +kernel), List.mem_of_getElem? (i := 1070) (by decide +kernel)⟩
theorem lw_p44 : lw_okq (⟨"HarbourMudModel", "readStatement", "()V"⟩, 55) := ⟨⟨by decide +kernel, by decide +kernel⟩, List.mem_of_getElem? (i := 696) (by decide +kernel), List.mem_of_getElem? (i := 1091) (by decide +kernel), List.mem_of_getElem? (i := 1092) (by decide +kernel)⟩
theorem lw_p45 : lw_okq (⟨"HarbourMudModel", "here", "()I"⟩, 55) := ⟨⟨by decide +kernel, by decide +kernel⟩, List.mem_of_getElem? (i := 696) (by decide +kernel), List.mem_of_getElem? (i := 1095) (by decide +kernel), List.mem_of_getElem? (i := 1096) (by decide +kernel)⟩
theorem lw_p46 : lw_okq (⟨"HarbourMudModel", "takeSign", "(Z)V"⟩, 55) := ⟨⟨by decide +kernel, by decide +kernel⟩, List.mem_of_getElem? (i := 696) (by decide +kernel), List.mem_of_getElem? (i := 1099) (by decide +kernel), List.mem_of_getElem? (i := 1100) (by decide +kernel)⟩
theorem lw_p47 : lw_okq (⟨"HarbourMudModel", "readNumber", "()I"⟩, 55) := ⟨⟨by decide +kernel, by decide +kernel⟩, List.mem_of_getElem? (i := 696) (by decide +kernel), List.mem_of_getElem? (i := 1103) (by decide +kernel), List.mem_of_getElem? (i := 1104) (by decide +kernel)⟩
def lw_privs_3 : List (MethodName × Nat) := [(⟨"HarbourMudModel", "wrongTides", "(I)I"⟩, 55), (⟨"HarbourMudModel", "passTide", "()V"⟩, 55), (⟨"HarbourMudModel", "flow", "()V"⟩, 55), (⟨"HarbourMudModel", "take", "(I)V"⟩, 55), (⟨"HarbourMudModel", "costOf", "(I)J"⟩, 55), (⟨"HarbourMudModel", "save", "()V"⟩, 55), (⟨"HarbourMudModel", "costNow", "()I"⟩, 55), (⟨"HarbourMudModel", "feetLacking", "(Z)I"⟩, 55), (⟨"HarbourMudModel", "putBack", "()V"⟩, 55), (⟨"HarbourMudModel", "holdsFor", "(I)I"⟩, 55), (⟨"HarbourMudModel", "tonsAfter", "(IIIII)I"⟩, 55), (⟨"HarbourMudModel", "settledAfter", "(II)I"⟩, 55), (⟨"HarbourMudModel", "readStatement", "()V"⟩, 55), (⟨"HarbourMudModel", "here", "()I"⟩, 55), (⟨"HarbourMudModel", "takeSign", "(Z)V"⟩, 55), (⟨"HarbourMudModel", "readNumber", "()I"⟩, 55)]
theorem lw_r3 : ∀ q ∈ lw_privs_3, lw_okq q := List.forall_mem_cons.mpr ⟨lw_p32, List.forall_mem_cons.mpr ⟨lw_p33, List.forall_mem_cons.mpr ⟨lw_p34, List.forall_mem_cons.mpr ⟨lw_p35, List.forall_mem_cons.mpr ⟨lw_p36, List.forall_mem_cons.mpr ⟨lw_p37, List.forall_mem_cons.mpr ⟨lw_p38, List.forall_mem_cons.mpr ⟨lw_p39, List.forall_mem_cons.mpr ⟨lw_p40, List.forall_mem_cons.mpr ⟨lw_p41, List.forall_mem_cons.mpr ⟨lw_p42, List.forall_mem_cons.mpr ⟨lw_p43, List.forall_mem_cons.mpr ⟨lw_p44, List.forall_mem_cons.mpr ⟨lw_p45, List.forall_mem_cons.mpr ⟨lw_p46, List.forall_mem_cons.mpr ⟨lw_p47, fun _ h => absurd h List.not_mem_nil⟩⟩⟩⟩⟩⟩⟩⟩⟩⟩⟩⟩⟩⟩⟩⟩
theorem lw_p48 : lw_okq (⟨"HarbourMudModel", "readDigit", "()I"⟩, 55) := ⟨⟨by decide +kernel, by decide +kernel⟩, List.mem_of_getElem? (i := 696) (by decide +kernel), List.mem_of_getElem? (i := 1107) (by decide +kernel), List.mem_of_getElem? (i := 1108) (by decide +kernel)⟩
theorem lw_p49 : lw_okq (⟨"HarbourMudModel", "readOf", "(II)I"⟩, 55) := ⟨⟨by decide +kernel, by decide +kernel⟩, List.mem_of_getElem? (i := 696) (by decide +kernel), List.mem_of_getElem? (i := 1113) (by decide +kernel), List.mem_of_getElem? (i := 1114) (by decide +kernel)⟩
theorem lw_p50 : lw_okq (⟨"HarbourMudModel", "comes", "(I)Z"⟩, 55) := ⟨⟨by decide +kernel, by decide +kernel⟩, List.mem_of_getElem? (i := 696) (by decide +kernel), List.mem_of_getElem? (i := 1117) (by decide +kernel), List.mem_of_getElem? (i := 1118) (by decide +kernel)⟩
theorem lw_p51 : lw_okq (⟨"HarbourMudModel", "carryAll", "()V"⟩, 55) := ⟨⟨by decide +kernel, by decide +kernel⟩, List.mem_of_getElem? (i := 696) (by decide +kernel), List.mem_of_getElem? (i := 1127) (by decide +kernel), List.mem_of_getElem? (i := 1128) (by decide +kernel)⟩
theorem lw_p52 : lw_okq (⟨"HarbourMudModel", "carry", "(I)I"⟩, 55) := ⟨⟨by decide +kernel, by decide +kernel⟩, List.mem_of_getElem? (i := 696) (by decide +kernel), List.mem_of_getElem? (i := 1131) (by decide +kernel), List.mem_of_getElem? (i := 1132) (by decide +kernel)⟩
def lw_privs_4 : List (MethodName × Nat) := [(⟨"HarbourMudModel", "readDigit", "()I"⟩, 55), (⟨"HarbourMudModel", "readOf", "(II)I"⟩, 55), (⟨"HarbourMudModel", "comes", "(I)Z"⟩, 55), (⟨"HarbourMudModel", "carryAll", "()V"⟩, 55), (⟨"HarbourMudModel", "carry", "(I)I"⟩, 55)]
theorem lw_r4 : ∀ q ∈ lw_privs_4, lw_okq q := List.forall_mem_cons.mpr ⟨lw_p48, List.forall_mem_cons.mpr ⟨lw_p49, List.forall_mem_cons.mpr ⟨lw_p50, List.forall_mem_cons.mpr ⟨lw_p51, List.forall_mem_cons.mpr ⟨lw_p52, fun _ h => absurd h List.not_mem_nil⟩⟩⟩⟩⟩
def lw_privs : List (MethodName × Nat) := lw_privs_1 ++ (lw_privs_2 ++ (lw_privs_3 ++ (lw_privs_4)))
def lw_tbl : List Cond := k2_sels lw_privs ++ tables_1
theorem lw_privs_ok : ∀ q ∈ lw_privs, lw_okq q := by
  show ∀ q ∈ lw_privs_1 ++ (lw_privs_2 ++ (lw_privs_3 ++ (lw_privs_4))), lw_okq q
  exact List.forall_mem_append.mpr ⟨lw_r1, List.forall_mem_append.mpr ⟨lw_r2, List.forall_mem_append.mpr ⟨lw_r3, lw_r4⟩⟩⟩
def RX0 : String := "HarbourMud$Cells"
def TX0 : u_T := fun k => match k with
  | 0 => ("HarbourMud$Cells", "number", "I", false)
  | 1 => ("HarbourMud$Cells", "base", "[I", true)
  | 2 => ("HarbourMud$Cells", "wanted", "[I", true)
  | 3 => ("HarbourMud$Cells", "settles", "[I", true)
  | 4 => ("HarbourMud$Cells", "stirs", "[I", true)
  | 5 => ("HarbourMud$Cells", "price", "[I", true)
  | 6 => ("HarbourMud$Cells", "loose", "[I", true)
  | _ => ("HarbourMud$Cells", "settled", "[I", true)
def tyX0 : Nat → FieldType := fun k => match k with
  | 0 => .int
  | 1 => .array .int
  | 2 => .array .int
  | 3 => .array .int
  | 4 => .array .int
  | 5 => .array .int
  | 6 => .array .int
  | _ => .array .int
abbrev wsX00 : List Cond := u_ws RX0 TX0 8
theorem nmX0 : ∀ a, a < 8 → ∀ b, b < 8 → a ≠ b → (TX0 a).2.1 ≠ (TX0 b).2.1 := by decide +kernel
theorem tyX0_ok : ∀ k, k < 8 → parseFieldDescriptor (TX0 k).2.2.1 = some (tyX0 k) := by decide +kernel
abbrev cX0_init : ByteArray := prog_2_method_1_code
def yX0_init : MethodName := ⟨RX0, "<init>", "()V"⟩
abbrev cX0_become : ByteArray := prog_2_method_2_code
def yX0_become : MethodName := ⟨RX0, "become", "(LHarbourMud$Cells;)V"⟩
abbrev cX0_has : ByteArray := prog_2_method_3_code
def yX0_has : MethodName := ⟨RX0, "has", "(I)Z"⟩
abbrev cX0_hasAll : ByteArray := prog_2_method_4_code
def yX0_hasAll : MethodName := ⟨RX0, "hasAll", "(I)Z"⟩
abbrev cX0_add : ByteArray := prog_2_method_5_code
def yX0_add : MethodName := ⟨RX0, "add", "(II)I"⟩
abbrev cX0_valuesOf : ByteArray := prog_2_method_6_code
def yX0_valuesOf : MethodName := ⟨RX0, "valuesOf", "(I)[I"⟩
abbrev cX0_heapsOf : ByteArray := prog_2_method_7_code
def yX0_heapsOf : MethodName := ⟨RX0, "heapsOf", "(Z)[I"⟩
abbrev cX0_settledIn : ByteArray := prog_2_method_8_code
def yX0_settledIn : MethodName := ⟨RX0, "settledIn", "(I)I"⟩
abbrev cX0_depthOf : ByteArray := prog_2_method_9_code
def yX0_depthOf : MethodName := ⟨RX0, "depthOf", "(I)I"⟩
abbrev cX0_lackOf : ByteArray := prog_2_method_10_code
def yX0_lackOf : MethodName := ⟨RX0, "lackOf", "(I)I"⟩
abbrev cX0_someLack : ByteArray := prog_2_method_11_code
def yX0_someLack : MethodName := ⟨RX0, "someLack", "()Z"⟩
abbrev cX0_feetLacked : ByteArray := prog_2_method_12_code
def yX0_feetLacked : MethodName := ⟨RX0, "feetLacked", "()I"⟩
abbrev cX0_priceOfLacks : ByteArray := prog_2_method_13_code
def yX0_priceOfLacks : MethodName := ⟨RX0, "priceOfLacks", "()J"⟩
abbrev cX0_settledInAll : ByteArray := prog_2_method_14_code
def yX0_settledInAll : MethodName := ⟨RX0, "settledInAll", "()I"⟩
abbrev cX0_tonsInSet : ByteArray := prog_2_method_15_code
def yX0_tonsInSet : MethodName := ⟨RX0, "tonsInSet", "(II)I"⟩
abbrev cX0_tonsInAll : ByteArray := prog_2_method_16_code
def yX0_tonsInAll : MethodName := ⟨RX0, "tonsInAll", "()I"⟩
abbrev cX0_stir : ByteArray := prog_2_method_17_code
def yX0_stir : MethodName := ⟨RX0, "stir", "()V"⟩
abbrev cX0_settle : ByteArray := prog_2_method_18_code
def yX0_settle : MethodName := ⟨RX0, "settle", "()V"⟩
abbrev cX0_nearest : ByteArray := prog_2_method_19_code
def yX0_nearest : MethodName := ⟨RX0, "nearest", "(I)I"⟩
abbrev cX0_fullest : ByteArray := prog_2_method_20_code
def yX0_fullest : MethodName := ⟨RX0, "fullest", "(I)I"⟩
def RX1 : String := "HarbourMud$CoastText"
def TX1 : u_T := fun k => match k with
  | 0 => ("HarbourMud$CoastText", "length", "I", false)
  | 1 => ("HarbourMud$CoastText", "bytes", "[I", true)
  | 2 => ("HarbourMud$CoastText", "at", "I", false)
  | 3 => ("HarbourMud$CoastText", "letter", "I", false)
  | 4 => ("HarbourMud$CoastText", "digit", "I", false)
  | 5 => ("HarbourMud$CoastText", "digitBefore", "I", false)
  | 6 => ("HarbourMud$CoastText", "kind", "I", false)
  | 7 => ("HarbourMud$CoastText", "stuff", "I", false)
  | 8 => ("HarbourMud$CoastText", "number", "I", false)
  | 9 => ("HarbourMud$CoastText", "numberBefore", "I", false)
  | 10 => ("HarbourMud$CoastText", "moonLength", "I", false)
  | _ => ("HarbourMud$CoastText", "moonKinds", "I", false)
def tyX1 : Nat → FieldType := fun k => match k with
  | 0 => .int
  | 1 => .array .int
  | 2 => .int
  | 3 => .int
  | 4 => .int
  | 5 => .int
  | 6 => .int
  | 7 => .int
  | 8 => .int
  | 9 => .int
  | 10 => .int
  | _ => .int
abbrev wsX10 : List Cond := u_ws RX1 TX1 12
theorem nmX1 : ∀ a, a < 12 → ∀ b, b < 12 → a ≠ b → (TX1 a).2.1 ≠ (TX1 b).2.1 := by decide +kernel
theorem tyX1_ok : ∀ k, k < 12 → parseFieldDescriptor (TX1 k).2.2.1 = some (tyX1 k) := by decide +kernel
abbrev cX1_init : ByteArray := prog_3_method_1_code
def yX1_init : MethodName := ⟨RX1, "<init>", "()V"⟩
abbrev cX1_append : ByteArray := prog_3_method_2_code
def yX1_append : MethodName := ⟨RX1, "append", "(I)V"⟩
abbrev cX1_readInto : ByteArray := prog_3_method_3_code
def yX1_readInto : MethodName := ⟨RX1, "readInto", "(LHarbourMud$Harbour;)I"⟩
abbrev cX1_giveTo : ByteArray := prog_3_method_4_code
def yX1_giveTo : MethodName := ⟨RX1, "giveTo", "(LHarbourMud$Harbour;)Z"⟩
abbrev cX1_readStatement : ByteArray := prog_3_method_5_code
def yX1_readStatement : MethodName := ⟨RX1, "readStatement", "()Z"⟩
abbrev cX1_byteHere : ByteArray := prog_3_method_6_code
def yX1_byteHere : MethodName := ⟨RX1, "byteHere", "()I"⟩
abbrev cX1_digitIsHere : ByteArray := prog_3_method_7_code
def yX1_digitIsHere : MethodName := ⟨RX1, "digitIsHere", "()Z"⟩
abbrev cX1_readSign : ByteArray := prog_3_method_8_code
def yX1_readSign : MethodName := ⟨RX1, "readSign", "(C)Z"⟩
abbrev cX1_readDigit : ByteArray := prog_3_method_9_code
def yX1_readDigit : MethodName := ⟨RX1, "readDigit", "()Z"⟩
abbrev cX1_readNumber : ByteArray := prog_3_method_10_code
def yX1_readNumber : MethodName := ⟨RX1, "readNumber", "()Z"⟩
abbrev cX1_readKind : ByteArray := prog_3_method_11_code
def yX1_readKind : MethodName := ⟨RX1, "readKind", "()Z"⟩
abbrev cX1_readStuff : ByteArray := prog_3_method_12_code
def yX1_readStuff : MethodName := ⟨RX1, "readStuff", "()Z"⟩
abbrev cX1_readMoon : ByteArray := prog_3_method_13_code
def yX1_readMoon : MethodName := ⟨RX1, "readMoon", "()Z"⟩
def RX2 : String := "HarbourMud$Dredger"
def TX2 : u_T := fun k => match k with
  | 0 => ("HarbourMud$Dredger", "cap", "I", false)
  | 1 => ("HarbourMud$Dredger", "drop", "I", false)
  | 2 => ("HarbourMud$Dredger", "plan", "I", false)
  | 3 => ("HarbourMud$Dredger", "toldCell", "I", false)
  | _ => ("HarbourMud$Dredger", "fee", "I", false)
def tyX2 : Nat → FieldType := fun k => match k with
  | 0 => .int
  | 1 => .int
  | 2 => .int
  | 3 => .int
  | _ => .int
abbrev wsX20 : List Cond := u_ws RX2 TX2 5
theorem nmX2 : ∀ a, a < 5 → ∀ b, b < 5 → a ≠ b → (TX2 a).2.1 ≠ (TX2 b).2.1 := by decide +kernel
theorem tyX2_ok : ∀ k, k < 5 → parseFieldDescriptor (TX2 k).2.2.1 = some (tyX2 k) := by decide +kernel
abbrev cX2_init : ByteArray := prog_4_method_1_code
def yX2_init : MethodName := ⟨RX2, "<init>", "()V"⟩
abbrev cX2_become : ByteArray := prog_4_method_2_code
def yX2_become : MethodName := ⟨RX2, "become", "(LHarbourMud$Dredger;)V"⟩
abbrev cX2_greatest : ByteArray := prog_4_method_3_code
def yX2_greatest : MethodName := ⟨RX2, "greatest", "(I)I"⟩
abbrev cX2_change : ByteArray := prog_4_method_4_code
def yX2_change : MethodName := ⟨RX2, "change", "(II)I"⟩
def RX3 : String := "HarbourMud$Harbour"
def TX3 : u_T := fun k => match k with
  | 0 => ("HarbourMud$Harbour", "cells", "LHarbourMud$Cells;", true)
  | 1 => ("HarbourMud$Harbour", "ways", "LHarbourMud$Ways;", true)
  | 2 => ("HarbourMud$Harbour", "rivers", "LHarbourMud$Rivers;", true)
  | 3 => ("HarbourMud$Harbour", "dredger", "LHarbourMud$Dredger;", true)
  | 4 => ("HarbourMud$Harbour", "moonLength", "I", false)
  | 5 => ("HarbourMud$Harbour", "moonKinds", "I", false)
  | 6 => ("HarbourMud$Harbour", "tides", "I", false)
  | 7 => ("HarbourMud$Harbour", "gone", "I", false)
  | 8 => ("HarbourMud$Harbour", "taken", "I", false)
  | 9 => ("HarbourMud$Harbour", "takenLast", "I", false)
  | 10 => ("HarbourMud$Harbour", "takenToSeaLast", "I", false)
  | _ => ("HarbourMud$Harbour", "looseBefore", "[I", true)
def tyX3 : Nat → FieldType := fun k => match k with
  | 0 => .object "HarbourMud$Cells"
  | 1 => .object "HarbourMud$Ways"
  | 2 => .object "HarbourMud$Rivers"
  | 3 => .object "HarbourMud$Dredger"
  | 4 => .int
  | 5 => .int
  | 6 => .int
  | 7 => .int
  | 8 => .int
  | 9 => .int
  | 10 => .int
  | _ => .array .int
abbrev wsX30 : List Cond := u_ws RX3 TX3 12
theorem nmX3 : ∀ a, a < 12 → ∀ b, b < 12 → a ≠ b → (TX3 a).2.1 ≠ (TX3 b).2.1 := by decide +kernel
theorem tyX3_ok : ∀ k, k < 12 → parseFieldDescriptor (TX3 k).2.2.1 = some (tyX3 k) := by decide +kernel
abbrev cX3_init : ByteArray := prog_5_method_1_code
def yX3_init : MethodName := ⟨RX3, "<init>", "()V"⟩
abbrev cX3_become : ByteArray := prog_5_method_2_code
def yX3_become : MethodName := ⟨RX3, "become", "(LHarbourMud$Harbour;)V"⟩
abbrev cX3_addWay : ByteArray := prog_5_method_3_code
def yX3_addWay : MethodName := ⟨RX3, "addWay", "(IIIII)I"⟩
abbrev cX3_addRiver : ByteArray := prog_5_method_4_code
def yX3_addRiver : MethodName := ⟨RX3, "addRiver", "(III)I"⟩
abbrev cX3_changeMoon : ByteArray := prog_5_method_5_code
def yX3_changeMoon : MethodName := ⟨RX3, "changeMoon", "(II)V"⟩
abbrev cX3_kindNow : ByteArray := prog_5_method_6_code
def yX3_kindNow : MethodName := ⟨RX3, "kindNow", "()I"⟩
abbrev cX3_goBy : ByteArray := prog_5_method_7_code
def yX3_goBy : MethodName := ⟨RX3, "goBy", "(I)V"⟩
abbrev cX3_goOn : ByteArray := prog_5_method_8_code
def yX3_goOn : MethodName := ⟨RX3, "goOn", "(II)V"⟩
abbrev cX3_carry : ByteArray := prog_5_method_9_code
def yX3_carry : MethodName := ⟨RX3, "carry", "(I)V"⟩
abbrev cX3_bring : ByteArray := prog_5_method_10_code
def yX3_bring : MethodName := ⟨RX3, "bring", "()V"⟩
abbrev cX3_drop : ByteArray := prog_5_method_11_code
def yX3_drop : MethodName := ⟨RX3, "drop", "(III)V"⟩
abbrev cX3_plannedCell : ByteArray := prog_5_method_12_code
def yX3_plannedCell : MethodName := ⟨RX3, "plannedCell", "(I)I"⟩
abbrev cX3_dredge : ByteArray := prog_5_method_13_code
def yX3_dredge : MethodName := ⟨RX3, "dredge", "(I)V"⟩
abbrev cX3_dredgeStuff : ByteArray := prog_5_method_14_code
def yX3_dredgeStuff : MethodName := ⟨RX3, "dredgeStuff", "(II)V"⟩
abbrev cX3_tideCosts : ByteArray := prog_5_method_15_code
def yX3_tideCosts : MethodName := ⟨RX3, "tideCosts", "()J"⟩
abbrev cX3_runCosts : ByteArray := prog_5_method_16_code
def yX3_runCosts : MethodName := ⟨RX3, "runCosts", "(IJ)J"⟩
abbrev cX3_firstLack : ByteArray := prog_5_method_17_code
def yX3_firstLack : MethodName := ⟨RX3, "firstLack", "(II)I"⟩
def RX4 : String := "HarbourMud$Rivers"
def TX4 : u_T := fun k => match k with
  | 0 => ("HarbourMud$Rivers", "number", "I", false)
  | 1 => ("HarbourMud$Rivers", "cell", "[I", true)
  | 2 => ("HarbourMud$Rivers", "stuff", "[I", true)
  | _ => ("HarbourMud$Rivers", "tonsATide", "[I", true)
def tyX4 : Nat → FieldType := fun k => match k with
  | 0 => .int
  | 1 => .array .int
  | 2 => .array .int
  | _ => .array .int
abbrev wsX40 : List Cond := u_ws RX4 TX4 4
theorem nmX4 : ∀ a, a < 4 → ∀ b, b < 4 → a ≠ b → (TX4 a).2.1 ≠ (TX4 b).2.1 := by decide +kernel
theorem tyX4_ok : ∀ k, k < 4 → parseFieldDescriptor (TX4 k).2.2.1 = some (tyX4 k) := by decide +kernel
abbrev cX4_init : ByteArray := prog_6_method_1_code
def yX4_init : MethodName := ⟨RX4, "<init>", "()V"⟩
abbrev cX4_become : ByteArray := prog_6_method_2_code
def yX4_become : MethodName := ⟨RX4, "become", "(LHarbourMud$Rivers;)V"⟩
abbrev cX4_has : ByteArray := prog_6_method_3_code
def yX4_has : MethodName := ⟨RX4, "has", "(I)Z"⟩
abbrev cX4_isFull : ByteArray := prog_6_method_4_code
def yX4_isFull : MethodName := ⟨RX4, "isFull", "()Z"⟩
abbrev cX4_add : ByteArray := prog_6_method_5_code
def yX4_add : MethodName := ⟨RX4, "add", "(III)I"⟩
def RX5 : String := "HarbourMud$Ways"
def TX5 : u_T := fun k => match k with
  | 0 => ("HarbourMud$Ways", "number", "I", false)
  | 1 => ("HarbourMud$Ways", "from", "[I", true)
  | 2 => ("HarbourMud$Ways", "to", "[I", true)
  | 3 => ("HarbourMud$Ways", "kind", "[I", true)
  | 4 => ("HarbourMud$Ways", "stuff", "[I", true)
  | 5 => ("HarbourMud$Ways", "hundredths", "[I", true)
  | _ => ("HarbourMud$Ways", "shutBits", "I", false)
def tyX5 : Nat → FieldType := fun k => match k with
  | 0 => .int
  | 1 => .array .int
  | 2 => .array .int
  | 3 => .array .int
  | 4 => .array .int
  | 5 => .array .int
  | _ => .int
abbrev wsX50 : List Cond := u_ws RX5 TX5 7
theorem nmX5 : ∀ a, a < 7 → ∀ b, b < 7 → a ≠ b → (TX5 a).2.1 ≠ (TX5 b).2.1 := by decide +kernel
theorem tyX5_ok : ∀ k, k < 7 → parseFieldDescriptor (TX5 k).2.2.1 = some (tyX5 k) := by decide +kernel
abbrev cX5_init : ByteArray := prog_7_method_1_code
def yX5_init : MethodName := ⟨RX5, "<init>", "()V"⟩
abbrev cX5_become : ByteArray := prog_7_method_2_code
def yX5_become : MethodName := ⟨RX5, "become", "(LHarbourMud$Ways;)V"⟩
abbrev cX5_has : ByteArray := prog_7_method_3_code
def yX5_has : MethodName := ⟨RX5, "has", "(I)Z"⟩
abbrev cX5_isFull : ByteArray := prog_7_method_4_code
def yX5_isFull : MethodName := ⟨RX5, "isFull", "()Z"⟩
abbrev cX5_isShut : ByteArray := prog_7_method_5_code
def yX5_isShut : MethodName := ⟨RX5, "isShut", "(I)Z"⟩
abbrev cX5_turn : ByteArray := prog_7_method_6_code
def yX5_turn : MethodName := ⟨RX5, "turn", "(I)V"⟩
abbrev cX5_together : ByteArray := prog_7_method_7_code
def yX5_together : MethodName := ⟨RX5, "together", "(III)I"⟩
abbrev cX5_add : ByteArray := prog_7_method_8_code
def yX5_add : MethodName := ⟨RX5, "add", "(IIIII)I"⟩
def RX6 : String := "HarbourMud"
def TX6 : u_T := fun k => match k with
  | 0 => ("HarbourMud", "now", "LHarbourMud$Harbour;", true)
  | 1 => ("HarbourMud", "mind", "LHarbourMud$Harbour;", true)
  | 2 => ("HarbourMud", "kept", "LHarbourMud$Harbour;", true)
  | 3 => ("HarbourMud", "hasImage", "Z", false)
  | 4 => ("HarbourMud", "text", "LHarbourMud$CoastText;", true)
  | 5 => ("HarbourMud", "rowBytes", "[I", true)
  | 6 => ("HarbourMud", "rowLength", "I", false)
  | _ => ("HarbourMud", "refusals", "[I", true)
def tyX6 : Nat → FieldType := fun k => match k with
  | 0 => .object "HarbourMud$Harbour"
  | 1 => .object "HarbourMud$Harbour"
  | 2 => .object "HarbourMud$Harbour"
  | 3 => .boolean
  | 4 => .object "HarbourMud$CoastText"
  | 5 => .array .int
  | 6 => .int
  | _ => .array .int
abbrev wsX60 : List Cond := u_ws RX6 TX6 8
theorem nmX6 : ∀ a, a < 8 → ∀ b, b < 8 → a ≠ b → (TX6 a).2.1 ≠ (TX6 b).2.1 := by decide +kernel
theorem tyX6_ok : ∀ k, k < 8 → parseFieldDescriptor (TX6 k).2.2.1 = some (tyX6 k) := by decide +kernel
abbrev cX6_init : ByteArray := prog_1_method_1_code
def yX6_init : MethodName := ⟨RX6, "<init>", "()V"⟩
abbrev cX6_feed : ByteArray := prog_1_method_2_code
def yX6_feed : MethodName := ⟨RX6, "feed", "(IJ)I"⟩
abbrev cX6_coast : ByteArray := prog_1_method_3_code
def yX6_coast : MethodName := ⟨RX6, "coast", "()I"⟩
abbrev cX6_cell : ByteArray := prog_1_method_4_code
def yX6_cell : MethodName := ⟨RX6, "cell", "(II)I"⟩
abbrev cX6_set : ByteArray := prog_1_method_5_code
def yX6_set : MethodName := ⟨RX6, "set", "(III)I"⟩
abbrev cX6_way : ByteArray := prog_1_method_6_code
def yX6_way : MethodName := ⟨RX6, "way", "(IIII)I"⟩
abbrev cX6_shut : ByteArray := prog_1_method_7_code
def yX6_shut : MethodName := ⟨RX6, "shut", "(IZ)I"⟩
abbrev cX6_river : ByteArray := prog_1_method_8_code
def yX6_river : MethodName := ⟨RX6, "river", "(III)I"⟩
abbrev cX6_moon : ByteArray := prog_1_method_9_code
def yX6_moon : MethodName := ⟨RX6, "moon", "(II)I"⟩
abbrev cX6_put : ByteArray := prog_1_method_10_code
def yX6_put : MethodName := ⟨RX6, "put", "(IIZI)I"⟩
abbrev cX6_tons : ByteArray := prog_1_method_11_code
def yX6_tons : MethodName := ⟨RX6, "tons", "(IIZ)I"⟩
abbrev cX6_depth : ByteArray := prog_1_method_12_code
def yX6_depth : MethodName := ⟨RX6, "depth", "(I)I"⟩
abbrev cX6_lacks : ByteArray := prog_1_method_13_code
def yX6_lacks : MethodName := ⟨RX6, "lacks", "(I)I"⟩
abbrev cX6_dredger : ByteArray := prog_1_method_14_code
def yX6_dredger : MethodName := ⟨RX6, "dredger", "(II)I"⟩
abbrev cX6_takes : ByteArray := prog_1_method_15_code
def yX6_takes : MethodName := ⟨RX6, "takes", "()I"⟩
abbrev cX6_go : ByteArray := prog_1_method_16_code
def yX6_go : MethodName := ⟨RX6, "go", "(I)I"⟩
abbrev cX6_cost : ByteArray := prog_1_method_17_code
def yX6_cost : MethodName := ⟨RX6, "cost", "(I)J"⟩
abbrev cX6_holds : ByteArray := prog_1_method_18_code
def yX6_holds : MethodName := ⟨RX6, "holds", "(I)I"⟩
abbrev cX6_alone : ByteArray := prog_1_method_19_code
def yX6_alone : MethodName := ⟨RX6, "alone", "(I)I"⟩
abbrev cX6_back : ByteArray := prog_1_method_20_code
def yX6_back : MethodName := ⟨RX6, "back", "(IIIII)I"⟩
abbrev cX6_bestDrop : ByteArray := prog_1_method_21_code
def yX6_bestDrop : MethodName := ⟨RX6, "bestDrop", "(I)I"⟩
abbrev cX6_bestPlan : ByteArray := prog_1_method_22_code
def yX6_bestPlan : MethodName := ⟨RX6, "bestPlan", "(I)I"⟩
abbrev cX6_leastCap : ByteArray := prog_1_method_23_code
def yX6_leastCap : MethodName := ⟨RX6, "leastCap", "(I)I"⟩
abbrev cX6_wall : ByteArray := prog_1_method_24_code
def yX6_wall : MethodName := ⟨RX6, "wall", "(I)I"⟩
abbrev cX6_share : ByteArray := prog_1_method_25_code
def yX6_share : MethodName := ⟨RX6, "share", "(II)I"⟩
abbrev cX6_row : ByteArray := prog_1_method_26_code
def yX6_row : MethodName := ⟨RX6, "row", "(I)I"⟩
abbrev cX6_judge : ByteArray := prog_1_method_27_code
def yX6_judge : MethodName := ⟨RX6, "judge", "(I)I"⟩
abbrev cX6_image : ByteArray := prog_1_method_28_code
def yX6_image : MethodName := ⟨RX6, "image", "()I"⟩
abbrev cX6_restore : ByteArray := prog_1_method_29_code
def yX6_restore : MethodName := ⟨RX6, "restore", "()I"⟩
abbrev cX6_count : ByteArray := prog_1_method_30_code
def yX6_count : MethodName := ⟨RX6, "count", "(I)I"⟩
abbrev cX6_refuse : ByteArray := prog_1_method_31_code
def yX6_refuse : MethodName := ⟨RX6, "refuse", "(I)I"⟩
abbrev cX6_refuseIfBelow0 : ByteArray := prog_1_method_32_code
def yX6_refuseIfBelow0 : MethodName := ⟨RX6, "refuseIfBelow0", "(I)I"⟩
abbrev cX6_whyNoRun : ByteArray := prog_1_method_33_code
def yX6_whyNoRun : MethodName := ⟨RX6, "whyNoRun", "(I)I"⟩
abbrev cX6_rowIsOfCells : ByteArray := prog_1_method_34_code
def yX6_rowIsOfCells : MethodName := ⟨RX6, "rowIsOfCells", "()Z"⟩
abbrev cX6_isStuff : ByteArray := prog_1_method_35_code
def yX6_isStuff : MethodName := ⟨RX6, "isStuff", "(I)Z"⟩
abbrev cX6_isKind : ByteArray := prog_1_method_36_code
def yX6_isKind : MethodName := ⟨RX6, "isKind", "(I)Z"⟩
abbrev cX6_heapOf : ByteArray := prog_1_method_37_code
def yX6_heapOf : MethodName := ⟨RX6, "heapOf", "(II)I"⟩
abbrev cX6_depthAbove : ByteArray := prog_1_method_38_code
def yX6_depthAbove : MethodName := ⟨RX6, "depthAbove", "(II)I"⟩
abbrev cX6_partOf : ByteArray := prog_1_method_39_code
def yX6_partOf : MethodName := ⟨RX6, "partOf", "(II)I"⟩
def RX7 : String := "HarbourMudModel"
def TX7 : u_T := fun k => match k with
  | 0 => ("HarbourMudModel", "cells", "I", false)
  | 1 => ("HarbourMudModel", "bases", "[I", true)
  | 2 => ("HarbourMudModel", "wanted", "[I", true)
  | 3 => ("HarbourMudModel", "settles", "[I", true)
  | 4 => ("HarbourMudModel", "stirs", "[I", true)
  | 5 => ("HarbourMudModel", "prices", "[I", true)
  | 6 => ("HarbourMudModel", "loose", "[I", true)
  | 7 => ("HarbourMudModel", "settled", "[I", true)
  | 8 => ("HarbourMudModel", "ways", "I", false)
  | 9 => ("HarbourMudModel", "wayFrom", "[I", true)
  | 10 => ("HarbourMudModel", "wayTo", "[I", true)
  | 11 => ("HarbourMudModel", "wayKind", "[I", true)
  | 12 => ("HarbourMudModel", "wayStuff", "[I", true)
  | 13 => ("HarbourMudModel", "wayPart", "[I", true)
  | 14 => ("HarbourMudModel", "isShut", "[Z", true)
  | 15 => ("HarbourMudModel", "rivers", "I", false)
  | 16 => ("HarbourMudModel", "riverCell", "[I", true)
  | 17 => ("HarbourMudModel", "riverStuff", "[I", true)
  | 18 => ("HarbourMudModel", "riverTons", "[I", true)
  | 19 => ("HarbourMudModel", "moon", "[I", true)
  | 20 => ("HarbourMudModel", "moonMany", "I", false)
  | 21 => ("HarbourMudModel", "tide", "I", false)
  | 22 => ("HarbourMudModel", "gone", "I", false)
  | 23 => ("HarbourMudModel", "took", "I", false)
  | 24 => ("HarbourMudModel", "cap", "I", false)
  | 25 => ("HarbourMudModel", "drop", "I", false)
  | 26 => ("HarbourMudModel", "plan", "I", false)
  | 27 => ("HarbourMudModel", "told", "I", false)
  | 28 => ("HarbourMudModel", "fee", "I", false)
  | 29 => ("HarbourMudModel", "text", "[I", true)
  | 30 => ("HarbourMudModel", "textMany", "I", false)
  | 31 => ("HarbourMudModel", "row", "[I", true)
  | 32 => ("HarbourMudModel", "rowMany", "I", false)
  | 33 => ("HarbourMudModel", "refused", "[I", true)
  | 34 => ("HarbourMudModel", "dryRiver", "I", false)
  | 35 => ("HarbourMudModel", "were", "[I", true)
  | 36 => ("HarbourMudModel", "tonsTaken", "I", false)
  | 37 => ("HarbourMudModel", "tonsToSea", "I", false)
  | 38 => ("HarbourMudModel", "savedLoose", "[I", true)
  | 39 => ("HarbourMudModel", "savedSettled", "[I", true)
  | 40 => ("HarbourMudModel", "savedTide", "I", false)
  | 41 => ("HarbourMudModel", "savedGone", "I", false)
  | 42 => ("HarbourMudModel", "savedTook", "I", false)
  | 43 => ("HarbourMudModel", "at", "I", false)
  | 44 => ("HarbourMudModel", "end", "I", false)
  | 45 => ("HarbourMudModel", "isBad", "Z", false)
  | 46 => ("HarbourMudModel", "statements", "I", false)
  | 47 => ("HarbourMudModel", "placeOf", "[I", true)
  | 48 => ("HarbourMudModel", "letterOf", "[I", true)
  | 49 => ("HarbourMudModel", "numbers", "[I", true)
  | 50 => ("HarbourMudModel", "savedMoon", "[I", true)
  | 51 => ("HarbourMudModel", "hasImage", "Z", false)
  | 52 => ("HarbourMudModel", "imaged", "[I", true)
  | 53 => ("HarbourMudModel", "imageAt", "I", false)
  | _ => ("HarbourMudModel", "isTaking", "Z", false)
def tyX7 : Nat → FieldType := fun k => match k with
  | 0 => .int
  | 1 => .array .int
  | 2 => .array .int
  | 3 => .array .int
  | 4 => .array .int
  | 5 => .array .int
  | 6 => .array .int
  | 7 => .array .int
  | 8 => .int
  | 9 => .array .int
  | 10 => .array .int
  | 11 => .array .int
  | 12 => .array .int
  | 13 => .array .int
  | 14 => .array .boolean
  | 15 => .int
  | 16 => .array .int
  | 17 => .array .int
  | 18 => .array .int
  | 19 => .array .int
  | 20 => .int
  | 21 => .int
  | 22 => .int
  | 23 => .int
  | 24 => .int
  | 25 => .int
  | 26 => .int
  | 27 => .int
  | 28 => .int
  | 29 => .array .int
  | 30 => .int
  | 31 => .array .int
  | 32 => .int
  | 33 => .array .int
  | 34 => .int
  | 35 => .array .int
  | 36 => .int
  | 37 => .int
  | 38 => .array .int
  | 39 => .array .int
  | 40 => .int
  | 41 => .int
  | 42 => .int
  | 43 => .int
  | 44 => .int
  | 45 => .boolean
  | 46 => .int
  | 47 => .array .int
  | 48 => .array .int
  | 49 => .array .int
  | 50 => .array .int
  | 51 => .boolean
  | 52 => .array .int
  | 53 => .int
  | _ => .boolean
abbrev wsX70 : List Cond := u_ws RX7 TX7 55
theorem nmX7 : ∀ a, a < 55 → ∀ b, b < 55 → a ≠ b → (TX7 a).2.1 ≠ (TX7 b).2.1 := by decide +kernel
theorem tyX7_ok : ∀ k, k < 55 → parseFieldDescriptor (TX7 k).2.2.1 = some (tyX7 k) := by decide +kernel
abbrev cX7_init : ByteArray := prog_9_method_1_code
def yX7_init : MethodName := ⟨RX7, "<init>", "()V"⟩
abbrev cX7_in : ByteArray := prog_9_method_3_code
def yX7_in : MethodName := ⟨RX7, "in", "(JJJ)Z"⟩
abbrev cX7_refuse : ByteArray := prog_9_method_4_code
def yX7_refuse : MethodName := ⟨RX7, "refuse", "(I)I"⟩
abbrev cX7_isCell : ByteArray := prog_9_method_5_code
def yX7_isCell : MethodName := ⟨RX7, "isCell", "(I)Z"⟩
abbrev cX7_isStuff : ByteArray := prog_9_method_6_code
def yX7_isStuff : MethodName := ⟨RX7, "isStuff", "(I)Z"⟩
abbrev cX7_addCell : ByteArray := prog_9_method_7_code
def yX7_addCell : MethodName := ⟨RX7, "addCell", "(II)V"⟩
abbrev cX7_cell : ByteArray := prog_9_method_8_code
def yX7_cell : MethodName := ⟨RX7, "cell", "(II)I"⟩
abbrev cX7_set : ByteArray := prog_9_method_9_code
def yX7_set : MethodName := ⟨RX7, "set", "(III)I"⟩
abbrev cX7_partsFrom : ByteArray := prog_9_method_10_code
def yX7_partsFrom : MethodName := ⟨RX7, "partsFrom", "(III)I"⟩
abbrev cX7_addWay : ByteArray := prog_9_method_11_code
def yX7_addWay : MethodName := ⟨RX7, "addWay", "(IIIII)V"⟩
abbrev cX7_areEnds : ByteArray := prog_9_method_12_code
def yX7_areEnds : MethodName := ⟨RX7, "areEnds", "(II)Z"⟩
abbrev cX7_way : ByteArray := prog_9_method_13_code
def yX7_way : MethodName := ⟨RX7, "way", "(IIII)I"⟩
abbrev cX7_shut : ByteArray := prog_9_method_14_code
def yX7_shut : MethodName := ⟨RX7, "shut", "(IZ)I"⟩
abbrev cX7_addRiver : ByteArray := prog_9_method_15_code
def yX7_addRiver : MethodName := ⟨RX7, "addRiver", "(III)V"⟩
abbrev cX7_river : ByteArray := prog_9_method_16_code
def yX7_river : MethodName := ⟨RX7, "river", "(III)I"⟩
abbrev cX7_moon : ByteArray := prog_9_method_17_code
def yX7_moon : MethodName := ⟨RX7, "moon", "(II)I"⟩
abbrev cX7_put : ByteArray := prog_9_method_18_code
def yX7_put : MethodName := ⟨RX7, "put", "(IIZI)I"⟩
abbrev cX7_tons : ByteArray := prog_9_method_19_code
def yX7_tons : MethodName := ⟨RX7, "tons", "(IIZ)I"⟩
abbrev cX7_settledIn : ByteArray := prog_9_method_20_code
def yX7_settledIn : MethodName := ⟨RX7, "settledIn", "(I)I"⟩
abbrev cX7_depthOf : ByteArray := prog_9_method_21_code
def yX7_depthOf : MethodName := ⟨RX7, "depthOf", "(I)I"⟩
abbrev cX7_lacksOf : ByteArray := prog_9_method_22_code
def yX7_lacksOf : MethodName := ⟨RX7, "lacksOf", "(I)I"⟩
abbrev cX7_depth : ByteArray := prog_9_method_23_code
def yX7_depth : MethodName := ⟨RX7, "depth", "(I)I"⟩
abbrev cX7_lacks : ByteArray := prog_9_method_24_code
def yX7_lacks : MethodName := ⟨RX7, "lacks", "(I)I"⟩
abbrev cX7_dredger : ByteArray := prog_9_method_25_code
def yX7_dredger : MethodName := ⟨RX7, "dredger", "(II)I"⟩
abbrev cX7_kindAt : ByteArray := prog_9_method_26_code
def yX7_kindAt : MethodName := ⟨RX7, "kindAt", "(I)I"⟩
abbrev cX7_lackingMost : ByteArray := prog_9_method_27_code
def yX7_lackingMost : MethodName := ⟨RX7, "lackingMost", "()I"⟩
abbrev cX7_deepest : ByteArray := prog_9_method_28_code
def yX7_deepest : MethodName := ⟨RX7, "deepest", "()I"⟩
abbrev cX7_chosen : ByteArray := prog_9_method_29_code
def yX7_chosen : MethodName := ⟨RX7, "chosen", "(I)I"⟩
abbrev cX7_flow : ByteArray := prog_9_method_30_code
def yX7_flow : MethodName := ⟨RX7, "flow", "()V"⟩
abbrev cX7_take : ByteArray := prog_9_method_31_code
def yX7_take : MethodName := ⟨RX7, "take", "(I)V"⟩
abbrev cX7_feetLacking : ByteArray := prog_9_method_32_code
def yX7_feetLacking : MethodName := ⟨RX7, "feetLacking", "(Z)I"⟩
abbrev cX7_costNow : ByteArray := prog_9_method_33_code
def yX7_costNow : MethodName := ⟨RX7, "costNow", "()I"⟩
abbrev cX7_passTide : ByteArray := prog_9_method_34_code
def yX7_passTide : MethodName := ⟨RX7, "passTide", "()V"⟩
abbrev cX7_takes : ByteArray := prog_9_method_35_code
def yX7_takes : MethodName := ⟨RX7, "takes", "()I"⟩
abbrev cX7_wrongTides : ByteArray := prog_9_method_36_code
def yX7_wrongTides : MethodName := ⟨RX7, "wrongTides", "(I)I"⟩
abbrev cX7_go : ByteArray := prog_9_method_37_code
def yX7_go : MethodName := ⟨RX7, "go", "(I)I"⟩
abbrev cX7_save : ByteArray := prog_9_method_38_code
def yX7_save : MethodName := ⟨RX7, "save", "()V"⟩
abbrev cX7_putBack : ByteArray := prog_9_method_39_code
def yX7_putBack : MethodName := ⟨RX7, "putBack", "()V"⟩
abbrev cX7_costOf : ByteArray := prog_9_method_40_code
def yX7_costOf : MethodName := ⟨RX7, "costOf", "(I)J"⟩
abbrev cX7_cost : ByteArray := prog_9_method_41_code
def yX7_cost : MethodName := ⟨RX7, "cost", "(I)J"⟩
abbrev cX7_holdsFor : ByteArray := prog_9_method_42_code
def yX7_holdsFor : MethodName := ⟨RX7, "holdsFor", "(I)I"⟩
abbrev cX7_holds : ByteArray := prog_9_method_43_code
def yX7_holds : MethodName := ⟨RX7, "holds", "(I)I"⟩
abbrev cX7_alone : ByteArray := prog_9_method_44_code
def yX7_alone : MethodName := ⟨RX7, "alone", "(I)I"⟩
abbrev cX7_tonsAfter : ByteArray := prog_9_method_45_code
def yX7_tonsAfter : MethodName := ⟨RX7, "tonsAfter", "(IIIII)I"⟩
abbrev cX7_back : ByteArray := prog_9_method_46_code
def yX7_back : MethodName := ⟨RX7, "back", "(IIIII)I"⟩
abbrev cX7_bestDrop : ByteArray := prog_9_method_47_code
def yX7_bestDrop : MethodName := ⟨RX7, "bestDrop", "(I)I"⟩
abbrev cX7_bestPlan : ByteArray := prog_9_method_48_code
def yX7_bestPlan : MethodName := ⟨RX7, "bestPlan", "(I)I"⟩
abbrev cX7_leastCap : ByteArray := prog_9_method_49_code
def yX7_leastCap : MethodName := ⟨RX7, "leastCap", "(I)I"⟩
abbrev cX7_wall : ByteArray := prog_9_method_50_code
def yX7_wall : MethodName := ⟨RX7, "wall", "(I)I"⟩
abbrev cX7_settledAfter : ByteArray := prog_9_method_51_code
def yX7_settledAfter : MethodName := ⟨RX7, "settledAfter", "(II)I"⟩
abbrev cX7_share : ByteArray := prog_9_method_52_code
def yX7_share : MethodName := ⟨RX7, "share", "(II)I"⟩
abbrev cX7_row : ByteArray := prog_9_method_53_code
def yX7_row : MethodName := ⟨RX7, "row", "(I)I"⟩
abbrev cX7_judge : ByteArray := prog_9_method_54_code
def yX7_judge : MethodName := ⟨RX7, "judge", "(I)I"⟩
abbrev cX7_feed : ByteArray := prog_9_method_55_code
def yX7_feed : MethodName := ⟨RX7, "feed", "(IJ)I"⟩
abbrev cX7_here : ByteArray := prog_9_method_56_code
def yX7_here : MethodName := ⟨RX7, "here", "()I"⟩
abbrev cX7_takeSign : ByteArray := prog_9_method_57_code
def yX7_takeSign : MethodName := ⟨RX7, "takeSign", "(Z)V"⟩
abbrev cX7_readDigit : ByteArray := prog_9_method_58_code
def yX7_readDigit : MethodName := ⟨RX7, "readDigit", "()I"⟩
abbrev cX7_readNumber : ByteArray := prog_9_method_59_code
def yX7_readNumber : MethodName := ⟨RX7, "readNumber", "()I"⟩
abbrev cX7_readOf : ByteArray := prog_9_method_60_code
def yX7_readOf : MethodName := ⟨RX7, "readOf", "(II)I"⟩
abbrev cX7_readStatement : ByteArray := prog_9_method_61_code
def yX7_readStatement : MethodName := ⟨RX7, "readStatement", "()V"⟩
abbrev cX7_comes : ByteArray := prog_9_method_62_code
def yX7_comes : MethodName := ⟨RX7, "comes", "(I)Z"⟩
abbrev cX7_coast : ByteArray := prog_9_method_63_code
def yX7_coast : MethodName := ⟨RX7, "coast", "()I"⟩
abbrev cX7_carry : ByteArray := prog_9_method_64_code
def yX7_carry : MethodName := ⟨RX7, "carry", "(I)I"⟩
abbrev cX7_carryAll : ByteArray := prog_9_method_65_code
def yX7_carryAll : MethodName := ⟨RX7, "carryAll", "()V"⟩
abbrev cX7_image : ByteArray := prog_9_method_66_code
def yX7_image : MethodName := ⟨RX7, "image", "()I"⟩
abbrev cX7_restore : ByteArray := prog_9_method_67_code
def yX7_restore : MethodName := ⟨RX7, "restore", "()I"⟩
abbrev cX7_count : ByteArray := prog_9_method_68_code
def yX7_count : MethodName := ⟨RX7, "count", "(I)I"⟩
def RL : String := "HarbourMudLaw"
abbrev cL_law : ByteArray := code
def yL_law : MethodName := ⟨RL, "law", "([I)Z"⟩
abbrev vwCl : List vw_C := [(RX0, TX0, 8), (RX1, TX1, 12), (RX2, TX2, 5), (RX3, TX3, 12), (RX4, TX4, 4), (RX5, TX5, 7), (RX6, TX6, 8), (RX7, TX7, 55)]
