section
-- ===== PART A: goes FIRST, ahead of the names: the tables' words, and 'selects' of the private methods out of them =====
/-- a private method of a class that the tables say can be made, by its rows of tables_1 -/
def lw_okq (q : MethodName × Nat) : Prop := (q.1.cls ≠ "java/lang/invoke/MethodHandle" ∧ q.1.cls ≠ "java/lang/invoke/VarHandle") ∧ Cond.instantiable q.1.cls q.2 ∈ tables_1 ∧ Cond.privateMethod q.1 ∈ tables_1 ∧ Cond.instanceMethod q.1 ∈ tables_1
theorem lw_p0 : lw_okq (⟨"HarbourMud", "refuse", "(I)I"⟩, 8) := ⟨⟨by decide +kernel, by decide +kernel⟩, List.mem_of_getElem? (i := 12) (by decide +kernel), List.mem_of_getElem? (i := 271) (by decide +kernel), List.mem_of_getElem? (i := 272) (by decide +kernel)⟩
theorem lw_p1 : lw_okq (⟨"HarbourMud$CoastText", "readStatement", "()Z"⟩, 12) := ⟨⟨by decide +kernel, by decide +kernel⟩, List.mem_of_getElem? (i := 198) (by decide +kernel), List.mem_of_getElem? (i := 312) (by decide +kernel), List.mem_of_getElem? (i := 313) (by decide +kernel)⟩
theorem lw_p2 : lw_okq (⟨"HarbourMud$CoastText", "byteHere", "()I"⟩, 12) := ⟨⟨by decide +kernel, by decide +kernel⟩, List.mem_of_getElem? (i := 198) (by decide +kernel), List.mem_of_getElem? (i := 316) (by decide +kernel), List.mem_of_getElem? (i := 317) (by decide +kernel)⟩
theorem lw_p3 : lw_okq (⟨"HarbourMud$CoastText", "readNumber", "()Z"⟩, 12) := ⟨⟨by decide +kernel, by decide +kernel⟩, List.mem_of_getElem? (i := 198) (by decide +kernel), List.mem_of_getElem? (i := 320) (by decide +kernel), List.mem_of_getElem? (i := 321) (by decide +kernel)⟩
theorem lw_p4 : lw_okq (⟨"HarbourMud$CoastText", "digitIsHere", "()Z"⟩, 12) := ⟨⟨by decide +kernel, by decide +kernel⟩, List.mem_of_getElem? (i := 198) (by decide +kernel), List.mem_of_getElem? (i := 324) (by decide +kernel), List.mem_of_getElem? (i := 325) (by decide +kernel)⟩
theorem lw_p5 : lw_okq (⟨"HarbourMud$CoastText", "readSign", "(C)Z"⟩, 12) := ⟨⟨by decide +kernel, by decide +kernel⟩, List.mem_of_getElem? (i := 198) (by decide +kernel), List.mem_of_getElem? (i := 328) (by decide +kernel), List.mem_of_getElem? (i := 329) (by decide +kernel)⟩
theorem lw_p6 : lw_okq (⟨"HarbourMud$CoastText", "readDigit", "()Z"⟩, 12) := ⟨⟨by decide +kernel, by decide +kernel⟩, List.mem_of_getElem? (i := 198) (by decide +kernel), List.mem_of_getElem? (i := 332) (by decide +kernel), List.mem_of_getElem? (i := 333) (by decide +kernel)⟩
theorem lw_p7 : lw_okq (⟨"HarbourMud$CoastText", "readKind", "()Z"⟩, 12) := ⟨⟨by decide +kernel, by decide +kernel⟩, List.mem_of_getElem? (i := 198) (by decide +kernel), List.mem_of_getElem? (i := 336) (by decide +kernel), List.mem_of_getElem? (i := 337) (by decide +kernel)⟩
theorem lw_p8 : lw_okq (⟨"HarbourMud$CoastText", "readStuff", "()Z"⟩, 12) := ⟨⟨by decide +kernel, by decide +kernel⟩, List.mem_of_getElem? (i := 198) (by decide +kernel), List.mem_of_getElem? (i := 340) (by decide +kernel), List.mem_of_getElem? (i := 341) (by decide +kernel)⟩
theorem lw_p9 : lw_okq (⟨"HarbourMud$CoastText", "readMoon", "()Z"⟩, 12) := ⟨⟨by decide +kernel, by decide +kernel⟩, List.mem_of_getElem? (i := 198) (by decide +kernel), List.mem_of_getElem? (i := 344) (by decide +kernel), List.mem_of_getElem? (i := 345) (by decide +kernel)⟩
theorem lw_p10 : lw_okq (⟨"HarbourMud$CoastText", "giveTo", "(LHarbourMud$Harbour;)Z"⟩, 12) := ⟨⟨by decide +kernel, by decide +kernel⟩, List.mem_of_getElem? (i := 198) (by decide +kernel), List.mem_of_getElem? (i := 348) (by decide +kernel), List.mem_of_getElem? (i := 349) (by decide +kernel)⟩
theorem lw_p11 : lw_okq (⟨"HarbourMud", "refuseIfBelow0", "(I)I"⟩, 8) := ⟨⟨by decide +kernel, by decide +kernel⟩, List.mem_of_getElem? (i := 12) (by decide +kernel), List.mem_of_getElem? (i := 405) (by decide +kernel), List.mem_of_getElem? (i := 406) (by decide +kernel)⟩
theorem lw_p12 : lw_okq (⟨"HarbourMud", "whyNoRun", "(I)I"⟩, 8) := ⟨⟨by decide +kernel, by decide +kernel⟩, List.mem_of_getElem? (i := 12) (by decide +kernel), List.mem_of_getElem? (i := 529) (by decide +kernel), List.mem_of_getElem? (i := 530) (by decide +kernel)⟩
theorem lw_p13 : lw_okq (⟨"HarbourMud$Harbour", "carry", "(I)V"⟩, 12) := ⟨⟨by decide +kernel, by decide +kernel⟩, List.mem_of_getElem? (i := 20) (by decide +kernel), List.mem_of_getElem? (i := 551) (by decide +kernel), List.mem_of_getElem? (i := 552) (by decide +kernel)⟩
theorem lw_p14 : lw_okq (⟨"HarbourMud$Harbour", "bring", "()V"⟩, 12) := ⟨⟨by decide +kernel, by decide +kernel⟩, List.mem_of_getElem? (i := 20) (by decide +kernel), List.mem_of_getElem? (i := 563) (by decide +kernel), List.mem_of_getElem? (i := 564) (by decide +kernel)⟩
theorem lw_p15 : lw_okq (⟨"HarbourMud$Harbour", "dredge", "(I)V"⟩, 12) := ⟨⟨by decide +kernel, by decide +kernel⟩, List.mem_of_getElem? (i := 20) (by decide +kernel), List.mem_of_getElem? (i := 572) (by decide +kernel), List.mem_of_getElem? (i := 573) (by decide +kernel)⟩
def lw_privs_1 : List (MethodName × Nat) := [(⟨"HarbourMud", "refuse", "(I)I"⟩, 8), (⟨"HarbourMud$CoastText", "readStatement", "()Z"⟩, 12), (⟨"HarbourMud$CoastText", "byteHere", "()I"⟩, 12), (⟨"HarbourMud$CoastText", "readNumber", "()Z"⟩, 12), (⟨"HarbourMud$CoastText", "digitIsHere", "()Z"⟩, 12), (⟨"HarbourMud$CoastText", "readSign", "(C)Z"⟩, 12), (⟨"HarbourMud$CoastText", "readDigit", "()Z"⟩, 12), (⟨"HarbourMud$CoastText", "readKind", "()Z"⟩, 12), (⟨"HarbourMud$CoastText", "readStuff", "()Z"⟩, 12), (⟨"HarbourMud$CoastText", "readMoon", "()Z"⟩, 12), (⟨"HarbourMud$CoastText", "giveTo", "(LHarbourMud$Harbour;)Z"⟩, 12), (⟨"HarbourMud", "refuseIfBelow0", "(I)I"⟩, 8), (⟨"HarbourMud", "whyNoRun", "(I)I"⟩, 8), (⟨"HarbourMud$Harbour", "carry", "(I)V"⟩, 12), (⟨"HarbourMud$Harbour", "bring", "()V"⟩, 12), (⟨"HarbourMud$Harbour", "dredge", "(I)V"⟩, 12)]
theorem lw_r1 : ∀ q ∈ lw_privs_1, lw_okq q := List.forall_mem_cons.mpr ⟨lw_p0, List.forall_mem_cons.mpr ⟨lw_p1, List.forall_mem_cons.mpr ⟨lw_p2, List.forall_mem_cons.mpr ⟨lw_p3, List.forall_mem_cons.mpr ⟨lw_p4, List.forall_mem_cons.mpr ⟨lw_p5, List.forall_mem_cons.mpr ⟨lw_p6, List.forall_mem_cons.mpr ⟨lw_p7, List.forall_mem_cons.mpr ⟨lw_p8, List.forall_mem_cons.mpr ⟨lw_p9, List.forall_mem_cons.mpr ⟨lw_p10, List.forall_mem_cons.mpr ⟨lw_p11, List.forall_mem_cons.mpr ⟨lw_p12, List.forall_mem_cons.mpr ⟨lw_p13, List.forall_mem_cons.mpr ⟨lw_p14, List.forall_mem_cons.mpr ⟨lw_p15, fun _ h => absurd h List.not_mem_nil⟩⟩⟩⟩⟩⟩⟩⟩⟩⟩⟩⟩⟩⟩⟩⟩
theorem lw_p16 : lw_okq (⟨"HarbourMud$Harbour", "dredgeStuff", "(II)V"⟩, 12) := ⟨⟨by decide +kernel, by decide +kernel⟩, List.mem_of_getElem? (i := 20) (by decide +kernel), List.mem_of_getElem? (i := 576) (by decide +kernel), List.mem_of_getElem? (i := 577) (by decide +kernel)⟩
theorem lw_p17 : lw_okq (⟨"HarbourMud", "rowIsOfCells", "()Z"⟩, 8) := ⟨⟨by decide +kernel, by decide +kernel⟩, List.mem_of_getElem? (i := 12) (by decide +kernel), List.mem_of_getElem? (i := 669) (by decide +kernel), List.mem_of_getElem? (i := 670) (by decide +kernel)⟩
theorem lw_p18 : lw_okq (⟨"HarbourMudModel", "refuse", "(I)I"⟩, 55) := ⟨⟨by decide +kernel, by decide +kernel⟩, List.mem_of_getElem? (i := 696) (by decide +kernel), List.mem_of_getElem? (i := 873) (by decide +kernel), List.mem_of_getElem? (i := 874) (by decide +kernel)⟩
theorem lw_p19 : lw_okq (⟨"HarbourMudModel", "addCell", "(II)V"⟩, 55) := ⟨⟨by decide +kernel, by decide +kernel⟩, List.mem_of_getElem? (i := 696) (by decide +kernel), List.mem_of_getElem? (i := 877) (by decide +kernel), List.mem_of_getElem? (i := 878) (by decide +kernel)⟩
theorem lw_p20 : lw_okq (⟨"HarbourMudModel", "isCell", "(I)Z"⟩, 55) := ⟨⟨by decide +kernel, by decide +kernel⟩, List.mem_of_getElem? (i := 696) (by decide +kernel), List.mem_of_getElem? (i := 885) (by decide +kernel), List.mem_of_getElem? (i := 886) (by decide +kernel)⟩
theorem lw_p21 : lw_okq (⟨"HarbourMudModel", "areEnds", "(II)Z"⟩, 55) := ⟨⟨by decide +kernel, by decide +kernel⟩, List.mem_of_getElem? (i := 696) (by decide +kernel), List.mem_of_getElem? (i := 897) (by decide +kernel), List.mem_of_getElem? (i := 898) (by decide +kernel)⟩
theorem lw_p22 : lw_okq (⟨"HarbourMudModel", "partsFrom", "(III)I"⟩, 55) := ⟨⟨by decide +kernel, by decide +kernel⟩, List.mem_of_getElem? (i := 696) (by decide +kernel), List.mem_of_getElem? (i := 901) (by decide +kernel), List.mem_of_getElem? (i := 902) (by decide +kernel)⟩
theorem lw_p23 : lw_okq (⟨"HarbourMudModel", "addWay", "(IIIII)V"⟩, 55) := ⟨⟨by decide +kernel, by decide +kernel⟩, List.mem_of_getElem? (i := 696) (by decide +kernel), List.mem_of_getElem? (i := 905) (by decide +kernel), List.mem_of_getElem? (i := 906) (by decide +kernel)⟩
theorem lw_p24 : lw_okq (⟨"HarbourMudModel", "addRiver", "(III)V"⟩, 55) := ⟨⟨by decide +kernel, by decide +kernel⟩, List.mem_of_getElem? (i := 696) (by decide +kernel), List.mem_of_getElem? (i := 920) (by decide +kernel), List.mem_of_getElem? (i := 921) (by decide +kernel)⟩
theorem lw_p25 : lw_okq (⟨"HarbourMudModel", "depthOf", "(I)I"⟩, 55) := ⟨⟨by decide +kernel, by decide +kernel⟩, List.mem_of_getElem? (i := 696) (by decide +kernel), List.mem_of_getElem? (i := 941) (by decide +kernel), List.mem_of_getElem? (i := 942) (by decide +kernel)⟩
theorem lw_p26 : lw_okq (⟨"HarbourMudModel", "settledIn", "(I)I"⟩, 55) := ⟨⟨by decide +kernel, by decide +kernel⟩, List.mem_of_getElem? (i := 696) (by decide +kernel), List.mem_of_getElem? (i := 945) (by decide +kernel), List.mem_of_getElem? (i := 946) (by decide +kernel)⟩
theorem lw_p27 : lw_okq (⟨"HarbourMudModel", "lacksOf", "(I)I"⟩, 55) := ⟨⟨by decide +kernel, by decide +kernel⟩, List.mem_of_getElem? (i := 696) (by decide +kernel), List.mem_of_getElem? (i := 953) (by decide +kernel), List.mem_of_getElem? (i := 954) (by decide +kernel)⟩
theorem lw_p28 : lw_okq (⟨"HarbourMudModel", "kindAt", "(I)I"⟩, 55) := ⟨⟨by decide +kernel, by decide +kernel⟩, List.mem_of_getElem? (i := 696) (by decide +kernel), List.mem_of_getElem? (i := 967) (by decide +kernel), List.mem_of_getElem? (i := 968) (by decide +kernel)⟩
theorem lw_p29 : lw_okq (⟨"HarbourMudModel", "chosen", "(I)I"⟩, 55) := ⟨⟨by decide +kernel, by decide +kernel⟩, List.mem_of_getElem? (i := 696) (by decide +kernel), List.mem_of_getElem? (i := 971) (by decide +kernel), List.mem_of_getElem? (i := 972) (by decide +kernel)⟩
theorem lw_p30 : lw_okq (⟨"HarbourMudModel", "lackingMost", "()I"⟩, 55) := ⟨⟨by decide +kernel, by decide +kernel⟩, List.mem_of_getElem? (i := 696) (by decide +kernel), List.mem_of_getElem? (i := 975) (by decide +kernel), List.mem_of_getElem? (i := 976) (by decide +kernel)⟩
theorem lw_p31 : lw_okq (⟨"HarbourMudModel", "deepest", "()I"⟩, 55) := ⟨⟨by decide +kernel, by decide +kernel⟩, List.mem_of_getElem? (i := 696) (by decide +kernel), List.mem_of_getElem? (i := 979) (by decide +kernel), List.mem_of_getElem? (i := 980) (by decide +kernel)⟩
def lw_privs_2 : List (MethodName × Nat) := [(⟨"HarbourMud$Harbour", "dredgeStuff", "(II)V"⟩, 12), (⟨"HarbourMud", "rowIsOfCells", "()Z"⟩, 8), (⟨"HarbourMudModel", "refuse", "(I)I"⟩, 55), (⟨"HarbourMudModel", "addCell", "(II)V"⟩, 55), (⟨"HarbourMudModel", "isCell", "(I)Z"⟩, 55), (⟨"HarbourMudModel", "areEnds", "(II)Z"⟩, 55), (⟨"HarbourMudModel", "partsFrom", "(III)I"⟩, 55), (⟨"HarbourMudModel", "addWay", "(IIIII)V"⟩, 55), (⟨"HarbourMudModel", "addRiver", "(III)V"⟩, 55), (⟨"HarbourMudModel", "depthOf", "(I)I"⟩, 55), (⟨"HarbourMudModel", "settledIn", "(I)I"⟩, 55), (⟨"HarbourMudModel", "lacksOf", "(I)I"⟩, 55), (⟨"HarbourMudModel", "kindAt", "(I)I"⟩, 55), (⟨"HarbourMudModel", "chosen", "(I)I"⟩, 55), (⟨"HarbourMudModel", "lackingMost", "()I"⟩, 55), (⟨"HarbourMudModel", "deepest", "()I"⟩, 55)]
theorem lw_r2 : ∀ q ∈ lw_privs_2, lw_okq q := List.forall_mem_cons.mpr ⟨lw_p16, List.forall_mem_cons.mpr ⟨lw_p17, List.forall_mem_cons.mpr ⟨lw_p18, List.forall_mem_cons.mpr ⟨lw_p19, List.forall_mem_cons.mpr ⟨lw_p20, List.forall_mem_cons.mpr ⟨lw_p21, List.forall_mem_cons.mpr ⟨lw_p22, List.forall_mem_cons.mpr ⟨lw_p23, List.forall_mem_cons.mpr ⟨lw_p24, List.forall_mem_cons.mpr ⟨lw_p25, List.forall_mem_cons.mpr ⟨lw_p26, List.forall_mem_cons.mpr ⟨lw_p27, List.forall_mem_cons.mpr ⟨lw_p28, List.forall_mem_cons.mpr ⟨lw_p29, List.forall_mem_cons.mpr ⟨lw_p30, List.forall_mem_cons.mpr ⟨lw_p31, fun _ h => absurd h List.not_mem_nil⟩⟩⟩⟩⟩⟩⟩⟩⟩⟩⟩⟩⟩⟩⟩⟩
theorem lw_p32 : lw_okq (⟨"HarbourMudModel", "wrongTides", "(I)I"⟩, 55) := ⟨⟨by decide +kernel, by decide +kernel⟩, List.mem_of_getElem? (i := 696) (by decide +kernel), List.mem_of_getElem? (i := 987) (by decide +kernel), List.mem_of_getElem? (i := 988) (by decide +kernel)⟩
theorem lw_p33 : lw_okq (⟨"HarbourMudModel", "passTide", "()V"⟩, 55) := ⟨⟨by decide +kernel, by decide +kernel⟩, List.mem_of_getElem? (i := 696) (by decide +kernel), List.mem_of_getElem? (i := 991) (by decide +kernel), List.mem_of_getElem? (i := 992) (by decide +kernel)⟩
theorem lw_p34 : lw_okq (⟨"HarbourMudModel", "flow", "()V"⟩, 55) := ⟨⟨by decide +kernel, by decide +kernel⟩, List.mem_of_getElem? (i := 696) (by decide +kernel), List.mem_of_getElem? (i := 995) (by decide +kernel), List.mem_of_getElem? (i := 996) (by decide +kernel)⟩
theorem lw_p35 : lw_okq (⟨"HarbourMudModel", "take", "(I)V"⟩, 55) := ⟨⟨by decide +kernel, by decide +kernel⟩, List.mem_of_getElem? (i := 696) (by decide +kernel), List.mem_of_getElem? (i := 1000) (by decide +kernel), List.mem_of_getElem? (i := 1001) (by decide +kernel)⟩
theorem lw_p36 : lw_okq (⟨"HarbourMudModel", "costOf", "(I)J"⟩, 55) := ⟨⟨by decide +kernel, by decide +kernel⟩, List.mem_of_getElem? (i := 696) (by decide +kernel), List.mem_of_getElem? (i := 1009) (by decide +kernel), List.mem_of_getElem? (i := 1010) (by decide +kernel)⟩
theorem lw_p37 : lw_okq (⟨"HarbourMudModel", "save", "()V"⟩, 55) := ⟨⟨by decide +kernel, by decide +kernel⟩, List.mem_of_getElem? (i := 696) (by decide +kernel), List.mem_of_getElem? (i := 1013) (by decide +kernel), List.mem_of_getElem? (i := 1014) (by decide +kernel)⟩
theorem lw_p38 : lw_okq (⟨"HarbourMudModel", "costNow", "()I"⟩, 55) := ⟨⟨by decide +kernel, by decide +kernel⟩, List.mem_of_getElem? (i := 696) (by decide +kernel), List.mem_of_getElem? (i := 1017) (by decide +kernel), List.mem_of_getElem? (i := 1018) (by decide +kernel)⟩
theorem lw_p39 : lw_okq (⟨"HarbourMudModel", "feetLacking", "(Z)I"⟩, 55) := ⟨⟨by decide +kernel, by decide +kernel⟩, List.mem_of_getElem? (i := 696) (by decide +kernel), List.mem_of_getElem? (i := 1021) (by decide +kernel), List.mem_of_getElem? (i := 1022) (by decide +kernel)⟩
theorem lw_p40 : lw_okq (⟨"HarbourMudModel", "putBack", "()V"⟩, 55) := ⟨⟨by decide +kernel, by decide +kernel⟩, List.mem_of_getElem? (i := 696) (by decide +kernel), List.mem_of_getElem? (i := 1025) (by decide +kernel), List.mem_of_getElem? (i := 1026) (by decide +kernel)⟩
theorem lw_p41 : lw_okq (⟨"HarbourMudModel", "holdsFor", "(I)I"⟩, 55) := ⟨⟨by decide +kernel, by decide +kernel⟩, List.mem_of_getElem? (i := 696) (by decide +kernel), List.mem_of_getElem? (i := 1033) (by decide +kernel), List.mem_of_getElem? (i := 1034) (by decide +kernel)⟩
theorem lw_p42 : lw_okq (⟨"HarbourMudModel", "tonsAfter", "(IIIII)I"⟩, 55) := ⟨⟨by decide +kernel, by decide +kernel⟩, List.mem_of_getElem? (i := 696) (by decide +kernel), List.mem_of_getElem? (i := 1045) (by decide +kernel), List.mem_of_getElem? (i := 1046) (by decide +kernel)⟩
theorem lw_p43 : lw_okq (⟨"HarbourMudModel", "settledAfter", "(II)I"⟩, 55) := ⟨⟨by decide +kernel, by decide +kernel⟩, List.mem_of_getElem? (i := 696) (by decide +kernel), List.mem_of_getElem? (i := 1069) (by decide +kernel), List.mem_of_getElem? (i := 1070) (by decide +kernel)⟩
theorem lw_p44 : lw_okq (⟨"HarbourMudModel", "readStatement", "()V"⟩, 55) := ⟨⟨by decide +kernel, by decide +kernel⟩, List.mem_of_getElem? (i := 696) (by decide +kernel), List.mem_of_getElem? (i := 1091) (by decide +kernel), List.mem_of_getElem? (i := 1092) (by decide +kernel)⟩
theorem lw_p45 : lw_okq (⟨"HarbourMudModel", "here", "()I"⟩, 55) := ⟨⟨by decide +kernel, by decide +kernel⟩, List.mem_of_getElem? (i := 696) (by decide +kernel), List.mem_of_getElem? (i := 1095) (by decide +kernel), List.mem_of_getElem? (i := 1096) (by decide +kernel)⟩
theorem lw_p46 : lw_okq (⟨"HarbourMudModel", "takeSign", "(Z)V"⟩, 55) := ⟨⟨by decide +kernel, by decide +kernel⟩, List.mem_of_getElem? (i := 696) (by decide +kernel), List.mem_of_getElem? (i := 1099) (by decide +kernel), List.mem_of_getElem? (i := 1100) (by decide +kernel)⟩
theorem lw_p47 : lw_okq (⟨"HarbourMudModel", "readNumber", "()I"⟩, 55) := ⟨⟨by decide +kernel, by decide +kernel⟩, List.mem_of_getElem? (i := 696) (by decide +kernel), List.mem_of_getElem? (i := 1103) (by decide +kernel), List.mem_of_getElem? (i := 1104) (by decide +kernel)⟩
def lw_privs_3 : List (MethodName × Nat) := [(⟨"HarbourMudModel", "wrongTides", "(I)I"⟩, 55), (⟨"HarbourMudModel", "passTide", "()V"⟩, 55), (⟨"HarbourMudModel", "flow", "()V"⟩, 55), (⟨"HarbourMudModel", "take", "(I)V"⟩, 55), (⟨"HarbourMudModel", "costOf", "(I)J"⟩, 55), (⟨"HarbourMudModel", "save", "()V"⟩, 55), (⟨"HarbourMudModel", "costNow", "()I"⟩, 55), (⟨"HarbourMudModel", "feetLacking", "(Z)I"⟩, 55), (⟨"HarbourMudModel", "putBack", "()V"⟩, 55), (⟨"HarbourMudModel", "holdsFor", "(I)I"⟩, 55), (⟨"HarbourMudModel", "tonsAfter", "(IIIII)I"⟩, 55), (⟨"HarbourMudModel", "settledAfter", "(II)I"⟩, 55), (⟨"HarbourMudModel", "readStatement", "()V"⟩, 55), (⟨"HarbourMudModel", "here", "()I"⟩, 55), (⟨"HarbourMudModel", "takeSign", "(Z)V"⟩, 55), (⟨"HarbourMudModel", "readNumber", "()I"⟩, 55)]
theorem lw_r3 : ∀ q ∈ lw_privs_3, lw_okq q := List.forall_mem_cons.mpr ⟨lw_p32, List.forall_mem_cons.mpr ⟨lw_p33, List.forall_mem_cons.mpr ⟨lw_p34, List.forall_mem_cons.mpr ⟨lw_p35, List.forall_mem_cons.mpr ⟨lw_p36, List.forall_mem_cons.mpr ⟨lw_p37, List.forall_mem_cons.mpr ⟨lw_p38, List.forall_mem_cons.mpr ⟨lw_p39, List.forall_mem_cons.mpr ⟨lw_p40, List.forall_mem_cons.mpr ⟨lw_p41, List.forall_mem_cons.mpr ⟨lw_p42, List.forall_mem_cons.mpr ⟨lw_p43, List.forall_mem_cons.mpr ⟨lw_p44, List.forall_mem_cons.mpr ⟨lw_p45, List.forall_mem_cons.mpr ⟨lw_p46, List.forall_mem_cons.mpr ⟨lw_p47, fun _ h => absurd h List.not_mem_nil⟩⟩⟩⟩⟩⟩⟩⟩⟩⟩⟩⟩⟩⟩⟩⟩
theorem lw_p48 : lw_okq (⟨"HarbourMudModel", "readDigit", "()I"⟩, 55) := ⟨⟨by decide +kernel, by decide +kernel⟩, List.mem_of_getElem? (i := 696) (by decide +kernel), List.mem_of_getElem? (i := 1107) (by decide +kernel), List.mem_of_getElem? (i := 1108) (by decide +kernel)⟩
theorem lw_p49 : lw_okq (⟨"HarbourMudModel", "readOf", "(II)I"⟩, 55) := ⟨⟨by decide +kernel, by decide +kernel⟩, List.mem_of_getElem? (i := 696) (by decide +kernel), List.mem_of_getElem? (i := 1113) (by decide +kernel), List.mem_of_getElem? (i := 1114) (by decide +kernel)⟩
theorem lw_p50 : lw_okq (⟨"HarbourMudModel", "comes", "(I)Z"⟩, 55) := ⟨⟨by decide +kernel, by decide +kernel⟩, List.mem_of_getElem? (i := 696) (by decide +kernel), List.mem_of_getElem? (i := 1117) (by decide +kernel), List.mem_of_getElem? (i := 1118) (by decide +kernel)⟩
theorem lw_p51 : lw_okq (⟨"HarbourMudModel", "carryAll", "()V"⟩, 55) := ⟨⟨by decide +kernel, by decide +kernel⟩, List.mem_of_getElem? (i := 696) (by decide +kernel), List.mem_of_getElem? (i := 1127) (by decide +kernel), List.mem_of_getElem? (i := 1128) (by decide +kernel)⟩
theorem lw_p52 : lw_okq (⟨"HarbourMudModel", "carry", "(I)I"⟩, 55) := ⟨⟨by decide +kernel, by decide +kernel⟩, List.mem_of_getElem? (i := 696) (by decide +kernel), List.mem_of_getElem? (i := 1131) (by decide +kernel), List.mem_of_getElem? (i := 1132) (by decide +kernel)⟩
def lw_privs_4 : List (MethodName × Nat) := [(⟨"HarbourMudModel", "readDigit", "()I"⟩, 55), (⟨"HarbourMudModel", "readOf", "(II)I"⟩, 55), (⟨"HarbourMudModel", "comes", "(I)Z"⟩, 55), (⟨"HarbourMudModel", "carryAll", "()V"⟩, 55), (⟨"HarbourMudModel", "carry", "(I)I"⟩, 55)]
theorem lw_r4 : ∀ q ∈ lw_privs_4, lw_okq q := List.forall_mem_cons.mpr ⟨lw_p48, List.forall_mem_cons.mpr ⟨lw_p49, List.forall_mem_cons.mpr ⟨lw_p50, List.forall_mem_cons.mpr ⟨lw_p51, List.forall_mem_cons.mpr ⟨lw_p52, fun _ h => absurd h List.not_mem_nil⟩⟩⟩⟩⟩
def lw_privs : List (MethodName × Nat) := lw_privs_1 ++ (lw_privs_2 ++ (lw_privs_3 ++ (lw_privs_4)))
def lw_tbl : List Cond := k2_sels lw_privs ++ tables_1
theorem lw_privs_ok : ∀ q ∈ lw_privs, lw_okq q := by
  show ∀ q ∈ lw_privs_1 ++ (lw_privs_2 ++ (lw_privs_3 ++ (lw_privs_4))), lw_okq q
  exact List.forall_mem_append.mpr ⟨lw_r1, List.forall_mem_append.mpr ⟨lw_r2, List.forall_mem_append.mpr ⟨lw_r3, lw_r4⟩⟩⟩
def RX0 : String := "HarbourMud$Cells"
def TX0 : u_T := fun k => match k with
  | 0 => ("HarbourMud$Cells", "number", "I", false)
  | 1 => ("HarbourMud$Cells", "base", "[I", true)
  | 2 => ("HarbourMud$Cells", "wanted", "[I", true)
  | 3 => ("HarbourMud$Cells", "settles", "[I", true)
  | 4 => ("HarbourMud$Cells", "stirs", "[I", true)
  | 5 => ("HarbourMud$Cells", "price", "[I", true)
  | 6 => ("HarbourMud$Cells", "loose", "[I", true)
  | _ => ("HarbourMud$Cells", "settled", "[I", true)
def tyX0 : Nat → FieldType := fun k => match k with
  | 0 => .int
  | 1 => .array .int
  | 2 => .array .int
  | 3 => .array .int
  | 4 => .array .int
  | 5 => .array .int
  | 6 => .array .int
  | _ => .array .int
abbrev wsX00 : List Cond := u_ws RX0 TX0 8
theorem nmX0 : ∀ a, a < 8 → ∀ b, b < 8 → a ≠ b → (TX0 a).2.1 ≠ (TX0 b).2.1 := by decide +kernel
theorem tyX0_ok : ∀ k, k < 8 → parseFieldDescriptor (TX0 k).2.2.1 = some (tyX0 k) := by decide +kernel
abbrev cX0_init : ByteArray := prog_2_method_1_code
def yX0_init : MethodName := ⟨RX0, "<init>", "()V"⟩
abbrev cX0_become : ByteArray := prog_2_method_2_code
def yX0_become : MethodName := ⟨RX0, "become", "(LHarbourMud$Cells;)V"⟩
abbrev cX0_has : ByteArray := prog_2_method_3_code
def yX0_has : MethodName := ⟨RX0, "has", "(I)Z"⟩
abbrev cX0_hasAll : ByteArray := prog_2_method_4_code
def yX0_hasAll : MethodName := ⟨RX0, "hasAll", "(I)Z"⟩
abbrev cX0_add : ByteArray := prog_2_method_5_code
def yX0_add : MethodName := ⟨RX0, "add", "(II)I"⟩
abbrev cX0_valuesOf : ByteArray := prog_2_method_6_code
def yX0_valuesOf : MethodName := ⟨RX0, "valuesOf", "(I)[I"⟩
abbrev cX0_heapsOf : ByteArray := prog_2_method_7_code
def yX0_heapsOf : MethodName := ⟨RX0, "heapsOf", "(Z)[I"⟩
abbrev cX0_settledIn : ByteArray := prog_2_method_8_code
def yX0_settledIn : MethodName := ⟨RX0, "settledIn", "(I)I"⟩
abbrev cX0_depthOf : ByteArray := prog_2_method_9_code
def yX0_depthOf : MethodName := ⟨RX0, "depthOf", "(I)I"⟩
abbrev cX0_lackOf : ByteArray := prog_2_method_10_code
def yX0_lackOf : MethodName := ⟨RX0, "lackOf", "(I)I"⟩
abbrev cX0_someLack : ByteArray := prog_2_method_11_code
def yX0_someLack : MethodName := ⟨RX0, "someLack", "()Z"⟩
abbrev cX0_feetLacked : ByteArray := prog_2_method_12_code
def yX0_feetLacked : MethodName := ⟨RX0, "feetLacked", "()I"⟩
abbrev cX0_priceOfLacks : ByteArray := prog_2_method_13_code
def yX0_priceOfLacks : MethodName := ⟨RX0, "priceOfLacks", "()J"⟩
abbrev cX0_settledInAll : ByteArray := prog_2_method_14_code
def yX0_settledInAll : MethodName := ⟨RX0, "settledInAll", "()I"⟩
abbrev cX0_tonsInSet : ByteArray := prog_2_method_15_code
def yX0_tonsInSet : MethodName := ⟨RX0, "tonsInSet", "(II)I"⟩
abbrev cX0_tonsInAll : ByteArray := prog_2_method_16_code
def yX0_tonsInAll : MethodName := ⟨RX0, "tonsInAll", "()I"⟩
abbrev cX0_stir : ByteArray := prog_2_method_17_code
def yX0_stir : MethodName := ⟨RX0, "stir", "()V"⟩
abbrev cX0_settle : ByteArray := prog_2_method_18_code
def yX0_settle : MethodName := ⟨RX0, "settle", "()V"⟩
abbrev cX0_nearest : ByteArray := prog_2_method_19_code
def yX0_nearest : MethodName := ⟨RX0, "nearest", "(I)I"⟩
abbrev cX0_fullest : ByteArray := prog_2_method_20_code
def yX0_fullest : MethodName := ⟨RX0, "fullest", "(I)I"⟩
def RX1 : String := "HarbourMud$CoastText"
def TX1 : u_T := fun k => match k with
  | 0 => ("HarbourMud$CoastText", "length", "I", false)
  | 1 => ("HarbourMud$CoastText", "bytes", "[I", true)
  | 2 => ("HarbourMud$CoastText", "at", "I", false)
  | 3 => ("HarbourMud$CoastText", "letter", "I", false)
  | 4 => ("HarbourMud$CoastText", "digit", "I", false)
  | 5 => ("HarbourMud$CoastText", "digitBefore", "I", false)
  | 6 => ("HarbourMud$CoastText", "kind", "I", false)
  | 7 => ("HarbourMud$CoastText", "stuff", "I", false)
  | 8 => ("HarbourMud$CoastText", "number", "I", false)
  | 9 => ("HarbourMud$CoastText", "numberBefore", "I", false)
  | 10 => ("HarbourMud$CoastText", "moonLength", "I", false)
  | _ => ("HarbourMud$CoastText", "moonKinds", "I", false)
def tyX1 : Nat → FieldType := fun k => match k with
  | 0 => .int
  | 1 => .array .int
  | 2 => .int
  | 3 => .int
  | 4 => .int
  | 5 => .int
  | 6 => .int
  | 7 => .int
  | 8 => .int
  | 9 => .int
  | 10 => .int
  | _ => .int
abbrev wsX10 : List Cond := u_ws RX1 TX1 12
theorem nmX1 : ∀ a, a < 12 → ∀ b, b < 12 → a ≠ b → (TX1 a).2.1 ≠ (TX1 b).2.1 := by decide +kernel
theorem tyX1_ok : ∀ k, k < 12 → parseFieldDescriptor (TX1 k).2.2.1 = some (tyX1 k) := by decide +kernel
abbrev cX1_init : ByteArray := prog_3_method_1_code
def yX1_init : MethodName := ⟨RX1, "<init>", "()V"⟩
abbrev cX1_append : ByteArray := prog_3_method_2_code
def yX1_append : MethodName := ⟨RX1, "append", "(I)V"⟩
abbrev cX1_readInto : ByteArray := prog_3_method_3_code
def yX1_readInto : MethodName := ⟨RX1, "readInto", "(LHarbourMud$Harbour;)I"⟩
abbrev cX1_giveTo : ByteArray := prog_3_method_4_code
def yX1_giveTo : MethodName := ⟨RX1, "giveTo", "(LHarbourMud$Harbour;)Z"⟩
abbrev cX1_readStatement : ByteArray := prog_3_method_5_code
def yX1_readStatement : MethodName := ⟨RX1, "readStatement", "()Z"⟩
abbrev cX1_byteHere : ByteArray := prog_3_method_6_code
def yX1_byteHere : MethodName := ⟨RX1, "byteHere", "()I"⟩
abbrev cX1_digitIsHere : ByteArray := prog_3_method_7_code
def yX1_digitIsHere : MethodName := ⟨RX1, "digitIsHere", "()Z"⟩
abbrev cX1_readSign : ByteArray := prog_3_method_8_code
def yX1_readSign : MethodName := ⟨RX1, "readSign", "(C)Z"⟩
abbrev cX1_readDigit : ByteArray := prog_3_method_9_code
def yX1_readDigit : MethodName := ⟨RX1, "readDigit", "()Z"⟩
abbrev cX1_readNumber : ByteArray := prog_3_method_10_code
def yX1_readNumber : MethodName := ⟨RX1, "readNumber", "()Z"⟩
abbrev cX1_readKind : ByteArray := prog_3_method_11_code
def yX1_readKind : MethodName := ⟨RX1, "readKind", "()Z"⟩
abbrev cX1_readStuff : ByteArray := prog_3_method_12_code
def yX1_readStuff : MethodName := ⟨RX1, "readStuff", "()Z"⟩
abbrev cX1_readMoon : ByteArray := prog_3_method_13_code
def yX1_readMoon : MethodName := ⟨RX1, "readMoon", "()Z"⟩
def RX2 : String := "HarbourMud$Dredger"
def TX2 : u_T := fun k => match k with
  | 0 => ("HarbourMud$Dredger", "cap", "I", false)
  | 1 => ("HarbourMud$Dredger", "drop", "I", false)
  | 2 => ("HarbourMud$Dredger", "plan", "I", false)
  | 3 => ("HarbourMud$Dredger", "toldCell", "I", false)
  | _ => ("HarbourMud$Dredger", "fee", "I", false)
def tyX2 : Nat → FieldType := fun k => match k with
  | 0 => .int
  | 1 => .int
  | 2 => .int
  | 3 => .int
  | _ => .int
abbrev wsX20 : List Cond := u_ws RX2 TX2 5
theorem nmX2 : ∀ a, a < 5 → ∀ b, b < 5 → a ≠ b → (TX2 a).2.1 ≠ (TX2 b).2.1 := by decide +kernel
theorem tyX2_ok : ∀ k, k < 5 → parseFieldDescriptor (TX2 k).2.2.1 = some (tyX2 k) := by decide +kernel
abbrev cX2_init : ByteArray := prog_4_method_1_code
def yX2_init : MethodName := ⟨RX2, "<init>", "()V"⟩
abbrev cX2_become : ByteArray := prog_4_method_2_code
def yX2_become : MethodName := ⟨RX2, "become", "(LHarbourMud$Dredger;)V"⟩
abbrev cX2_greatest : ByteArray := prog_4_method_3_code
def yX2_greatest : MethodName := ⟨RX2, "greatest", "(I)I"⟩
abbrev cX2_change : ByteArray := prog_4_method_4_code
def yX2_change : MethodName := ⟨RX2, "change", "(II)I"⟩
def RX3 : String := "HarbourMud$Harbour"
def TX3 : u_T := fun k => match k with
  | 0 => ("HarbourMud$Harbour", "cells", "LHarbourMud$Cells;", true)
  | 1 => ("HarbourMud$Harbour", "ways", "LHarbourMud$Ways;", true)
  | 2 => ("HarbourMud$Harbour", "rivers", "LHarbourMud$Rivers;", true)
  | 3 => ("HarbourMud$Harbour", "dredger", "LHarbourMud$Dredger;", true)
  | 4 => ("HarbourMud$Harbour", "moonLength", "I", false)
  | 5 => ("HarbourMud$Harbour", "moonKinds", "I", false)
  | 6 => ("HarbourMud$Harbour", "tides", "I", false)
  | 7 => ("HarbourMud$Harbour", "gone", "I", false)
  | 8 => ("HarbourMud$Harbour", "taken", "I", false)
  | 9 => ("HarbourMud$Harbour", "takenLast", "I", false)
  | 10 => ("HarbourMud$Harbour", "takenToSeaLast", "I", false)
  | _ => ("HarbourMud$Harbour", "looseBefore", "[I", true)
def tyX3 : Nat → FieldType := fun k => match k with
  | 0 => .object "HarbourMud$Cells"
  | 1 => .object "HarbourMud$Ways"
  | 2 => .object "HarbourMud$Rivers"
  | 3 => .object "HarbourMud$Dredger"
  | 4 => .int
  | 5 => .int
  | 6 => .int
  | 7 => .int
  | 8 => .int
  | 9 => .int
  | 10 => .int
  | _ => .array .int
abbrev wsX30 : List Cond := u_ws RX3 TX3 12
theorem nmX3 : ∀ a, a < 12 → ∀ b, b < 12 → a ≠ b → (TX3 a).2.1 ≠ (TX3 b).2.1 := by decide +kernel
theorem tyX3_ok : ∀ k, k < 12 → parseFieldDescriptor (TX3 k).2.2.1 = some (tyX3 k) := by decide +kernel
abbrev cX3_init : ByteArray := prog_5_method_1_code
def yX3_init : MethodName := ⟨RX3, "<init>", "()V"⟩
abbrev cX3_become : ByteArray := prog_5_method_2_code
def yX3_become : MethodName := ⟨RX3, "become", "(LHarbourMud$Harbour;)V"⟩
abbrev cX3_addWay : ByteArray := prog_5_method_3_code
def yX3_addWay : MethodName := ⟨RX3, "addWay", "(IIIII)I"⟩
abbrev cX3_addRiver : ByteArray := prog_5_method_4_code
def yX3_addRiver : MethodName := ⟨RX3, "addRiver", "(III)I"⟩
abbrev cX3_changeMoon : ByteArray := prog_5_method_5_code
def yX3_changeMoon : MethodName := ⟨RX3, "changeMoon", "(II)V"⟩
abbrev cX3_kindNow : ByteArray := prog_5_method_6_code
def yX3_kindNow : MethodName := ⟨RX3, "kindNow", "()I"⟩
abbrev cX3_goBy : ByteArray := prog_5_method_7_code
def yX3_goBy : MethodName := ⟨RX3, "goBy", "(I)V"⟩
abbrev cX3_goOn : ByteArray := prog_5_method_8_code
def yX3_goOn : MethodName := ⟨RX3, "goOn", "(II)V"⟩
abbrev cX3_carry : ByteArray := prog_5_method_9_code
def yX3_carry : MethodName := ⟨RX3, "carry", "(I)V"⟩
abbrev cX3_bring : ByteArray := prog_5_method_10_code
def yX3_bring : MethodName := ⟨RX3, "bring", "()V"⟩
abbrev cX3_drop : ByteArray := prog_5_method_11_code
def yX3_drop : MethodName := ⟨RX3, "drop", "(III)V"⟩
abbrev cX3_plannedCell : ByteArray := prog_5_method_12_code
def yX3_plannedCell : MethodName := ⟨RX3, "plannedCell", "(I)I"⟩
abbrev cX3_dredge : ByteArray := prog_5_method_13_code
def yX3_dredge : MethodName := ⟨RX3, "dredge", "(I)V"⟩
abbrev cX3_dredgeStuff : ByteArray := prog_5_method_14_code
def yX3_dredgeStuff : MethodName := ⟨RX3, "dredgeStuff", "(II)V"⟩
abbrev cX3_tideCosts : ByteArray := prog_5_method_15_code
def yX3_tideCosts : MethodName := ⟨RX3, "tideCosts", "()J"⟩
abbrev cX3_runCosts : ByteArray := prog_5_method_16_code
def yX3_runCosts : MethodName := ⟨RX3, "runCosts", "(IJ)J"⟩
abbrev cX3_firstLack : ByteArray := prog_5_method_17_code
def yX3_firstLack : MethodName := ⟨RX3, "firstLack", "(II)I"⟩
def RX4 : String := "HarbourMud$Rivers"
def TX4 : u_T := fun k => match k with
  | 0 => ("HarbourMud$Rivers", "number", "I", false)
  | 1 => ("HarbourMud$Rivers", "cell", "[I", true)
  | 2 => ("HarbourMud$Rivers", "stuff", "[I", true)
  | _ => ("HarbourMud$Rivers", "tonsATide", "[I", true)
def tyX4 : Nat → FieldType := fun k => match k with
  | 0 => .int
  | 1 => .array .int
  | 2 => .array .int
  | _ => .array .int
abbrev wsX40 : List Cond := u_ws RX4 TX4 4
theorem nmX4 : ∀ a, a < 4 → ∀ b, b < 4 → a ≠ b → (TX4 a).2.1 ≠ (TX4 b).2.1 := by decide +kernel
theorem tyX4_ok : ∀ k, k < 4 → parseFieldDescriptor (TX4 k).2.2.1 = some (tyX4 k) := by decide +kernel
abbrev cX4_init : ByteArray := prog_6_method_1_code
def yX4_init : MethodName := ⟨RX4, "<init>", "()V"⟩
abbrev cX4_become : ByteArray := prog_6_method_2_code
def yX4_become : MethodName := ⟨RX4, "become", "(LHarbourMud$Rivers;)V"⟩
abbrev cX4_has : ByteArray := prog_6_method_3_code
def yX4_has : MethodName := ⟨RX4, "has", "(I)Z"⟩
abbrev cX4_isFull : ByteArray := prog_6_method_4_code
def yX4_isFull : MethodName := ⟨RX4, "isFull", "()Z"⟩
abbrev cX4_add : ByteArray := prog_6_method_5_code
def yX4_add : MethodName := ⟨RX4, "add", "(III)I"⟩
def RX5 : String := "HarbourMud$Ways"
def TX5 : u_T := fun k => match k with
  | 0 => ("HarbourMud$Ways", "number", "I", false)
  | 1 => ("HarbourMud$Ways", "from", "[I", true)
  | 2 => ("HarbourMud$Ways", "to", "[I", true)
  | 3 => ("HarbourMud$Ways", "kind", "[I", true)
  | 4 => ("HarbourMud$Ways", "stuff", "[I", true)
  | 5 => ("HarbourMud$Ways", "hundredths", "[I", true)
  | _ => ("HarbourMud$Ways", "shutBits", "I", false)
def tyX5 : Nat → FieldType := fun k => match k with
  | 0 => .int
  | 1 => .array .int
  | 2 => .array .int
  | 3 => .array .int
  | 4 => .array .int
  | 5 => .array .int
  | _ => .int
abbrev wsX50 : List Cond := u_ws RX5 TX5 7
theorem nmX5 : ∀ a, a < 7 → ∀ b, b < 7 → a ≠ b → (TX5 a).2.1 ≠ (TX5 b).2.1 := by decide +kernel
theorem tyX5_ok : ∀ k, k < 7 → parseFieldDescriptor (TX5 k).2.2.1 = some (tyX5 k) := by decide +kernel
abbrev cX5_init : ByteArray := prog_7_method_1_code
def yX5_init : MethodName := ⟨RX5, "<init>", "()V"⟩
abbrev cX5_become : ByteArray := prog_7_method_2_code
def yX5_become : MethodName := ⟨RX5, "become", "(LHarbourMud$Ways;)V"⟩
abbrev cX5_has : ByteArray := prog_7_method_3_code
def yX5_has : MethodName := ⟨RX5, "has", "(I)Z"⟩
abbrev cX5_isFull : ByteArray := prog_7_method_4_code
def yX5_isFull : MethodName := ⟨RX5, "isFull", "()Z"⟩
abbrev cX5_isShut : ByteArray := prog_7_method_5_code
def yX5_isShut : MethodName := ⟨RX5, "isShut", "(I)Z"⟩
abbrev cX5_turn : ByteArray := prog_7_method_6_code
def yX5_turn : MethodName := ⟨RX5, "turn", "(I)V"⟩
abbrev cX5_together : ByteArray := prog_7_method_7_code
def yX5_together : MethodName := ⟨RX5, "together", "(III)I"⟩
abbrev cX5_add : ByteArray := prog_7_method_8_code
def yX5_add : MethodName := ⟨RX5, "add", "(IIIII)I"⟩
def RX6 : String := "HarbourMud"
def TX6 : u_T := fun k => match k with
  | 0 => ("HarbourMud", "now", "LHarbourMud$Harbour;", true)
  | 1 => ("HarbourMud", "mind", "LHarbourMud$Harbour;", true)
  | 2 => ("HarbourMud", "kept", "LHarbourMud$Harbour;", true)
  | 3 => ("HarbourMud", "hasImage", "Z", false)
  | 4 => ("HarbourMud", "text", "LHarbourMud$CoastText;", true)
  | 5 => ("HarbourMud", "rowBytes", "[I", true)
  | 6 => ("HarbourMud", "rowLength", "I", false)
  | _ => ("HarbourMud", "refusals", "[I", true)
def tyX6 : Nat → FieldType := fun k => match k with
  | 0 => .object "HarbourMud$Harbour"
  | 1 => .object "HarbourMud$Harbour"
  | 2 => .object "HarbourMud$Harbour"
  | 3 => .boolean
  | 4 => .object "HarbourMud$CoastText"
  | 5 => .array .int
  | 6 => .int
  | _ => .array .int
abbrev wsX60 : List Cond := u_ws RX6 TX6 8
theorem nmX6 : ∀ a, a < 8 → ∀ b, b < 8 → a ≠ b → (TX6 a).2.1 ≠ (TX6 b).2.1 := by decide +kernel
theorem tyX6_ok : ∀ k, k < 8 → parseFieldDescriptor (TX6 k).2.2.1 = some (tyX6 k) := by decide +kernel
abbrev cX6_init : ByteArray := prog_1_method_1_code
def yX6_init : MethodName := ⟨RX6, "<init>", "()V"⟩
abbrev cX6_feed : ByteArray := prog_1_method_2_code
def yX6_feed : MethodName := ⟨RX6, "feed", "(IJ)I"⟩
abbrev cX6_coast : ByteArray := prog_1_method_3_code
def yX6_coast : MethodName := ⟨RX6, "coast", "()I"⟩
abbrev cX6_cell : ByteArray := prog_1_method_4_code
def yX6_cell : MethodName := ⟨RX6, "cell", "(II)I"⟩
abbrev cX6_set : ByteArray := prog_1_method_5_code
def yX6_set : MethodName := ⟨RX6, "set", "(III)I"⟩
abbrev cX6_way : ByteArray := prog_1_method_6_code
def yX6_way : MethodName := ⟨RX6, "way", "(IIII)I"⟩
abbrev cX6_shut : ByteArray := prog_1_method_7_code
def yX6_shut : MethodName := ⟨RX6, "shut", "(IZ)I"⟩
abbrev cX6_river : ByteArray := prog_1_method_8_code
def yX6_river : MethodName := ⟨RX6, "river", "(III)I"⟩
abbrev cX6_moon : ByteArray := prog_1_method_9_code
def yX6_moon : MethodName := ⟨RX6, "moon", "(II)I"⟩
abbrev cX6_put : ByteArray := prog_1_method_10_code
def yX6_put : MethodName := ⟨RX6, "put", "(IIZI)I"⟩
abbrev cX6_tons : ByteArray := prog_1_method_11_code
def yX6_tons : MethodName := ⟨RX6, "tons", "(IIZ)I"⟩
abbrev cX6_depth : ByteArray := prog_1_method_12_code
def yX6_depth : MethodName := ⟨RX6, "depth", "(I)I"⟩
abbrev cX6_lacks : ByteArray := prog_1_method_13_code
def yX6_lacks : MethodName := ⟨RX6, "lacks", "(I)I"⟩
abbrev cX6_dredger : ByteArray := prog_1_method_14_code
def yX6_dredger : MethodName := ⟨RX6, "dredger", "(II)I"⟩
abbrev cX6_takes : ByteArray := prog_1_method_15_code
def yX6_takes : MethodName := ⟨RX6, "takes", "()I"⟩
abbrev cX6_go : ByteArray := prog_1_method_16_code
def yX6_go : MethodName := ⟨RX6, "go", "(I)I"⟩
abbrev cX6_cost : ByteArray := prog_1_method_17_code
def yX6_cost : MethodName := ⟨RX6, "cost", "(I)J"⟩
abbrev cX6_holds : ByteArray := prog_1_method_18_code
def yX6_holds : MethodName := ⟨RX6, "holds", "(I)I"⟩
abbrev cX6_alone : ByteArray := prog_1_method_19_code
def yX6_alone : MethodName := ⟨RX6, "alone", "(I)I"⟩
abbrev cX6_back : ByteArray := prog_1_method_20_code
def yX6_back : MethodName := ⟨RX6, "back", "(IIIII)I"⟩
abbrev cX6_bestDrop : ByteArray := prog_1_method_21_code
def yX6_bestDrop : MethodName := ⟨RX6, "bestDrop", "(I)I"⟩
abbrev cX6_bestPlan : ByteArray := prog_1_method_22_code
def yX6_bestPlan : MethodName := ⟨RX6, "bestPlan", "(I)I"⟩
abbrev cX6_leastCap : ByteArray := prog_1_method_23_code
def yX6_leastCap : MethodName := ⟨RX6, "leastCap", "(I)I"⟩
abbrev cX6_wall : ByteArray := prog_1_method_24_code
def yX6_wall : MethodName := ⟨RX6, "wall", "(I)I"⟩
abbrev cX6_share : ByteArray := prog_1_method_25_code
def yX6_share : MethodName := ⟨RX6, "share", "(II)I"⟩
abbrev cX6_row : ByteArray := prog_1_method_26_code
def yX6_row : MethodName := ⟨RX6, "row", "(I)I"⟩
abbrev cX6_judge : ByteArray := prog_1_method_27_code
def yX6_judge : MethodName := ⟨RX6, "judge", "(I)I"⟩
abbrev cX6_image : ByteArray := prog_1_method_28_code
def yX6_image : MethodName := ⟨RX6, "image", "()I"⟩
abbrev cX6_restore : ByteArray := prog_1_method_29_code
def yX6_restore : MethodName := ⟨RX6, "restore", "()I"⟩
abbrev cX6_count : ByteArray := prog_1_method_30_code
def yX6_count : MethodName := ⟨RX6, "count", "(I)I"⟩
abbrev cX6_refuse : ByteArray := prog_1_method_31_code
def yX6_refuse : MethodName := ⟨RX6, "refuse", "(I)I"⟩
abbrev cX6_refuseIfBelow0 : ByteArray := prog_1_method_32_code
def yX6_refuseIfBelow0 : MethodName := ⟨RX6, "refuseIfBelow0", "(I)I"⟩
abbrev cX6_whyNoRun : ByteArray := prog_1_method_33_code
def yX6_whyNoRun : MethodName := ⟨RX6, "whyNoRun", "(I)I"⟩
abbrev cX6_rowIsOfCells : ByteArray := prog_1_method_34_code
def yX6_rowIsOfCells : MethodName := ⟨RX6, "rowIsOfCells", "()Z"⟩
abbrev cX6_isStuff : ByteArray := prog_1_method_35_code
def yX6_isStuff : MethodName := ⟨RX6, "isStuff", "(I)Z"⟩
abbrev cX6_isKind : ByteArray := prog_1_method_36_code
def yX6_isKind : MethodName := ⟨RX6, "isKind", "(I)Z"⟩
abbrev cX6_heapOf : ByteArray := prog_1_method_37_code
def yX6_heapOf : MethodName := ⟨RX6, "heapOf", "(II)I"⟩
abbrev cX6_depthAbove : ByteArray := prog_1_method_38_code
def yX6_depthAbove : MethodName := ⟨RX6, "depthAbove", "(II)I"⟩
abbrev cX6_partOf : ByteArray := prog_1_method_39_code
def yX6_partOf : MethodName := ⟨RX6, "partOf", "(II)I"⟩
def RX7 : String := "HarbourMudModel"
def TX7 : u_T := fun k => match k with
  | 0 => ("HarbourMudModel", "cells", "I", false)
  | 1 => ("HarbourMudModel", "bases", "[I", true)
  | 2 => ("HarbourMudModel", "wanted", "[I", true)
  | 3 => ("HarbourMudModel", "settles", "[I", true)
  | 4 => ("HarbourMudModel", "stirs", "[I", true)
  | 5 => ("HarbourMudModel", "prices", "[I", true)
  | 6 => ("HarbourMudModel", "loose", "[I", true)
  | 7 => ("HarbourMudModel", "settled", "[I", true)
  | 8 => ("HarbourMudModel", "ways", "I", false)
  | 9 => ("HarbourMudModel", "wayFrom", "[I", true)
  | 10 => ("HarbourMudModel", "wayTo", "[I", true)
  | 11 => ("HarbourMudModel", "wayKind", "[I", true)
  | 12 => ("HarbourMudModel", "wayStuff", "[I", true)
  | 13 => ("HarbourMudModel", "wayPart", "[I", true)
  | 14 => ("HarbourMudModel", "isShut", "[Z", true)
  | 15 => ("HarbourMudModel", "rivers", "I", false)
  | 16 => ("HarbourMudModel", "riverCell", "[I", true)
  | 17 => ("HarbourMudModel", "riverStuff", "[I", true)
  | 18 => ("HarbourMudModel", "riverTons", "[I", true)
  | 19 => ("HarbourMudModel", "moon", "[I", true)
  | 20 => ("HarbourMudModel", "moonMany", "I", false)
  | 21 => ("HarbourMudModel", "tide", "I", false)
  | 22 => ("HarbourMudModel", "gone", "I", false)
  | 23 => ("HarbourMudModel", "took", "I", false)
  | 24 => ("HarbourMudModel", "cap", "I", false)
  | 25 => ("HarbourMudModel", "drop", "I", false)
  | 26 => ("HarbourMudModel", "plan", "I", false)
  | 27 => ("HarbourMudModel", "told", "I", false)
  | 28 => ("HarbourMudModel", "fee", "I", false)
  | 29 => ("HarbourMudModel", "text", "[I", true)
  | 30 => ("HarbourMudModel", "textMany", "I", false)
  | 31 => ("HarbourMudModel", "row", "[I", true)
  | 32 => ("HarbourMudModel", "rowMany", "I", false)
  | 33 => ("HarbourMudModel", "refused", "[I", true)
  | 34 => ("HarbourMudModel", "dryRiver", "I", false)
  | 35 => ("HarbourMudModel", "were", "[I", true)
  | 36 => ("HarbourMudModel", "tonsTaken", "I", false)
  | 37 => ("HarbourMudModel", "tonsToSea", "I", false)
  | 38 => ("HarbourMudModel", "savedLoose", "[I", true)
  | 39 => ("HarbourMudModel", "savedSettled", "[I", true)
  | 40 => ("HarbourMudModel", "savedTide", "I", false)
  | 41 => ("HarbourMudModel", "savedGone", "I", false)
  | 42 => ("HarbourMudModel", "savedTook", "I", false)
  | 43 => ("HarbourMudModel", "at", "I", false)
  | 44 => ("HarbourMudModel", "end", "I", false)
  | 45 => ("HarbourMudModel", "isBad", "Z", false)
  | 46 => ("HarbourMudModel", "statements", "I", false)
  | 47 => ("HarbourMudModel", "placeOf", "[I", true)
  | 48 => ("HarbourMudModel", "letterOf", "[I", true)
  | 49 => ("HarbourMudModel", "numbers", "[I", true)
  | 50 => ("HarbourMudModel", "savedMoon", "[I", true)
  | 51 => ("HarbourMudModel", "hasImage", "Z", false)
  | 52 => ("HarbourMudModel", "imaged", "[I", true)
  | 53 => ("HarbourMudModel", "imageAt", "I", false)
  | _ => ("HarbourMudModel", "isTaking", "Z", false)
def tyX7 : Nat → FieldType := fun k => match k with
  | 0 => .int
  | 1 => .array .int
  | 2 => .array .int
  | 3 => .array .int
  | 4 => .array .int
  | 5 => .array .int
  | 6 => .array .int
  | 7 => .array .int
  | 8 => .int
  | 9 => .array .int
  | 10 => .array .int
  | 11 => .array .int
  | 12 => .array .int
  | 13 => .array .int
  | 14 => .array .boolean
  | 15 => .int
  | 16 => .array .int
  | 17 => .array .int
  | 18 => .array .int
  | 19 => .array .int
  | 20 => .int
  | 21 => .int
  | 22 => .int
  | 23 => .int
  | 24 => .int
  | 25 => .int
  | 26 => .int
  | 27 => .int
  | 28 => .int
  | 29 => .array .int
  | 30 => .int
  | 31 => .array .int
  | 32 => .int
  | 33 => .array .int
  | 34 => .int
  | 35 => .array .int
  | 36 => .int
  | 37 => .int
  | 38 => .array .int
  | 39 => .array .int
  | 40 => .int
  | 41 => .int
  | 42 => .int
  | 43 => .int
  | 44 => .int
  | 45 => .boolean
  | 46 => .int
  | 47 => .array .int
  | 48 => .array .int
  | 49 => .array .int
  | 50 => .array .int
  | 51 => .boolean
  | 52 => .array .int
  | 53 => .int
  | _ => .boolean
abbrev wsX70 : List Cond := u_ws RX7 TX7 55
theorem nmX7 : ∀ a, a < 55 → ∀ b, b < 55 → a ≠ b → (TX7 a).2.1 ≠ (TX7 b).2.1 := by decide +kernel
theorem tyX7_ok : ∀ k, k < 55 → parseFieldDescriptor (TX7 k).2.2.1 = some (tyX7 k) := by decide +kernel
abbrev cX7_init : ByteArray := prog_9_method_1_code
def yX7_init : MethodName := ⟨RX7, "<init>", "()V"⟩
abbrev cX7_in : ByteArray := prog_9_method_3_code
def yX7_in : MethodName := ⟨RX7, "in", "(JJJ)Z"⟩
abbrev cX7_refuse : ByteArray := prog_9_method_4_code
def yX7_refuse : MethodName := ⟨RX7, "refuse", "(I)I"⟩
abbrev cX7_isCell : ByteArray := prog_9_method_5_code
def yX7_isCell : MethodName := ⟨RX7, "isCell", "(I)Z"⟩
abbrev cX7_isStuff : ByteArray := prog_9_method_6_code
def yX7_isStuff : MethodName := ⟨RX7, "isStuff", "(I)Z"⟩
abbrev cX7_addCell : ByteArray := prog_9_method_7_code
def yX7_addCell : MethodName := ⟨RX7, "addCell", "(II)V"⟩
abbrev cX7_cell : ByteArray := prog_9_method_8_code
def yX7_cell : MethodName := ⟨RX7, "cell", "(II)I"⟩
abbrev cX7_set : ByteArray := prog_9_method_9_code
def yX7_set : MethodName := ⟨RX7, "set", "(III)I"⟩
abbrev cX7_partsFrom : ByteArray := prog_9_method_10_code
def yX7_partsFrom : MethodName := ⟨RX7, "partsFrom", "(III)I"⟩
abbrev cX7_addWay : ByteArray := prog_9_method_11_code
def yX7_addWay : MethodName := ⟨RX7, "addWay", "(IIIII)V"⟩
abbrev cX7_areEnds : ByteArray := prog_9_method_12_code
def yX7_areEnds : MethodName := ⟨RX7, "areEnds", "(II)Z"⟩
abbrev cX7_way : ByteArray := prog_9_method_13_code
def yX7_way : MethodName := ⟨RX7, "way", "(IIII)I"⟩
abbrev cX7_shut : ByteArray := prog_9_method_14_code
def yX7_shut : MethodName := ⟨RX7, "shut", "(IZ)I"⟩
abbrev cX7_addRiver : ByteArray := prog_9_method_15_code
def yX7_addRiver : MethodName := ⟨RX7, "addRiver", "(III)V"⟩
abbrev cX7_river : ByteArray := prog_9_method_16_code
def yX7_river : MethodName := ⟨RX7, "river", "(III)I"⟩
abbrev cX7_moon : ByteArray := prog_9_method_17_code
def yX7_moon : MethodName := ⟨RX7, "moon", "(II)I"⟩
abbrev cX7_put : ByteArray := prog_9_method_18_code
def yX7_put : MethodName := ⟨RX7, "put", "(IIZI)I"⟩
abbrev cX7_tons : ByteArray := prog_9_method_19_code
def yX7_tons : MethodName := ⟨RX7, "tons", "(IIZ)I"⟩
abbrev cX7_settledIn : ByteArray := prog_9_method_20_code
def yX7_settledIn : MethodName := ⟨RX7, "settledIn", "(I)I"⟩
abbrev cX7_depthOf : ByteArray := prog_9_method_21_code
def yX7_depthOf : MethodName := ⟨RX7, "depthOf", "(I)I"⟩
abbrev cX7_lacksOf : ByteArray := prog_9_method_22_code
def yX7_lacksOf : MethodName := ⟨RX7, "lacksOf", "(I)I"⟩
abbrev cX7_depth : ByteArray := prog_9_method_23_code
def yX7_depth : MethodName := ⟨RX7, "depth", "(I)I"⟩
abbrev cX7_lacks : ByteArray := prog_9_method_24_code
def yX7_lacks : MethodName := ⟨RX7, "lacks", "(I)I"⟩
abbrev cX7_dredger : ByteArray := prog_9_method_25_code
def yX7_dredger : MethodName := ⟨RX7, "dredger", "(II)I"⟩
abbrev cX7_kindAt : ByteArray := prog_9_method_26_code
def yX7_kindAt : MethodName := ⟨RX7, "kindAt", "(I)I"⟩
abbrev cX7_lackingMost : ByteArray := prog_9_method_27_code
def yX7_lackingMost : MethodName := ⟨RX7, "lackingMost", "()I"⟩
abbrev cX7_deepest : ByteArray := prog_9_method_28_code
def yX7_deepest : MethodName := ⟨RX7, "deepest", "()I"⟩
abbrev cX7_chosen : ByteArray := prog_9_method_29_code
def yX7_chosen : MethodName := ⟨RX7, "chosen", "(I)I"⟩
abbrev cX7_flow : ByteArray := prog_9_method_30_code
def yX7_flow : MethodName := ⟨RX7, "flow", "()V"⟩
abbrev cX7_take : ByteArray := prog_9_method_31_code
def yX7_take : MethodName := ⟨RX7, "take", "(I)V"⟩
abbrev cX7_feetLacking : ByteArray := prog_9_method_32_code
def yX7_feetLacking : MethodName := ⟨RX7, "feetLacking", "(Z)I"⟩
abbrev cX7_costNow : ByteArray := prog_9_method_33_code
def yX7_costNow : MethodName := ⟨RX7, "costNow", "()I"⟩
abbrev cX7_passTide : ByteArray := prog_9_method_34_code
def yX7_passTide : MethodName := ⟨RX7, "passTide", "()V"⟩
abbrev cX7_takes : ByteArray := prog_9_method_35_code
def yX7_takes : MethodName := ⟨RX7, "takes", "()I"⟩
abbrev cX7_wrongTides : ByteArray := prog_9_method_36_code
def yX7_wrongTides : MethodName := ⟨RX7, "wrongTides", "(I)I"⟩
abbrev cX7_go : ByteArray := prog_9_method_37_code
def yX7_go : MethodName := ⟨RX7, "go", "(I)I"⟩
abbrev cX7_save : ByteArray := prog_9_method_38_code
def yX7_save : MethodName := ⟨RX7, "save", "()V"⟩
abbrev cX7_putBack : ByteArray := prog_9_method_39_code
def yX7_putBack : MethodName := ⟨RX7, "putBack", "()V"⟩
abbrev cX7_costOf : ByteArray := prog_9_method_40_code
def yX7_costOf : MethodName := ⟨RX7, "costOf", "(I)J"⟩
abbrev cX7_cost : ByteArray := prog_9_method_41_code
def yX7_cost : MethodName := ⟨RX7, "cost", "(I)J"⟩
abbrev cX7_holdsFor : ByteArray := prog_9_method_42_code
def yX7_holdsFor : MethodName := ⟨RX7, "holdsFor", "(I)I"⟩
abbrev cX7_holds : ByteArray := prog_9_method_43_code
def yX7_holds : MethodName := ⟨RX7, "holds", "(I)I"⟩
abbrev cX7_alone : ByteArray := prog_9_method_44_code
def yX7_alone : MethodName := ⟨RX7, "alone", "(I)I"⟩
abbrev cX7_tonsAfter : ByteArray := prog_9_method_45_code
def yX7_tonsAfter : MethodName := ⟨RX7, "tonsAfter", "(IIIII)I"⟩
abbrev cX7_back : ByteArray := prog_9_method_46_code
def yX7_back : MethodName := ⟨RX7, "back", "(IIIII)I"⟩
abbrev cX7_bestDrop : ByteArray := prog_9_method_47_code
def yX7_bestDrop : MethodName := ⟨RX7, "bestDrop", "(I)I"⟩
abbrev cX7_bestPlan : ByteArray := prog_9_method_48_code
def yX7_bestPlan : MethodName := ⟨RX7, "bestPlan", "(I)I"⟩
abbrev cX7_leastCap : ByteArray := prog_9_method_49_code
def yX7_leastCap : MethodName := ⟨RX7, "leastCap", "(I)I"⟩
abbrev cX7_wall : ByteArray := prog_9_method_50_code
def yX7_wall : MethodName := ⟨RX7, "wall", "(I)I"⟩
abbrev cX7_settledAfter : ByteArray := prog_9_method_51_code
def yX7_settledAfter : MethodName := ⟨RX7, "settledAfter", "(II)I"⟩
abbrev cX7_share : ByteArray := prog_9_method_52_code
def yX7_share : MethodName := ⟨RX7, "share", "(II)I"⟩
abbrev cX7_row : ByteArray := prog_9_method_53_code
def yX7_row : MethodName := ⟨RX7, "row", "(I)I"⟩
abbrev cX7_judge : ByteArray := prog_9_method_54_code
def yX7_judge : MethodName := ⟨RX7, "judge", "(I)I"⟩
abbrev cX7_feed : ByteArray := prog_9_method_55_code
def yX7_feed : MethodName := ⟨RX7, "feed", "(IJ)I"⟩
abbrev cX7_here : ByteArray := prog_9_method_56_code
def yX7_here : MethodName := ⟨RX7, "here", "()I"⟩
abbrev cX7_takeSign : ByteArray := prog_9_method_57_code
def yX7_takeSign : MethodName := ⟨RX7, "takeSign", "(Z)V"⟩
abbrev cX7_readDigit : ByteArray := prog_9_method_58_code
def yX7_readDigit : MethodName := ⟨RX7, "readDigit", "()I"⟩
abbrev cX7_readNumber : ByteArray := prog_9_method_59_code
def yX7_readNumber : MethodName := ⟨RX7, "readNumber", "()I"⟩
abbrev cX7_readOf : ByteArray := prog_9_method_60_code
def yX7_readOf : MethodName := ⟨RX7, "readOf", "(II)I"⟩
abbrev cX7_readStatement : ByteArray := prog_9_method_61_code
def yX7_readStatement : MethodName := ⟨RX7, "readStatement", "()V"⟩
abbrev cX7_comes : ByteArray := prog_9_method_62_code
def yX7_comes : MethodName := ⟨RX7, "comes", "(I)Z"⟩
abbrev cX7_coast : ByteArray := prog_9_method_63_code
def yX7_coast : MethodName := ⟨RX7, "coast", "()I"⟩
abbrev cX7_carry : ByteArray := prog_9_method_64_code
def yX7_carry : MethodName := ⟨RX7, "carry", "(I)I"⟩
abbrev cX7_carryAll : ByteArray := prog_9_method_65_code
def yX7_carryAll : MethodName := ⟨RX7, "carryAll", "()V"⟩
abbrev cX7_image : ByteArray := prog_9_method_66_code
def yX7_image : MethodName := ⟨RX7, "image", "()I"⟩
abbrev cX7_restore : ByteArray := prog_9_method_67_code
def yX7_restore : MethodName := ⟨RX7, "restore", "()I"⟩
abbrev cX7_count : ByteArray := prog_9_method_68_code
def yX7_count : MethodName := ⟨RX7, "count", "(I)I"⟩
def RL : String := "HarbourMudLaw"
abbrev cL_law : ByteArray := code
def yL_law : MethodName := ⟨RL, "law", "([I)Z"⟩
abbrev vwCl : List vw_C := [(RX0, TX0, 8), (RX1, TX1, 12), (RX2, TX2, 5), (RX3, TX3, 12), (RX4, TX4, 4), (RX5, TX5, 7), (RX6, TX6, 8), (RX7, TX7, 55)]
end
section
theorem dX0_init_0 : decode cX0_init 0 = .ok (.aload_n 0, 1) := by decide +kernel
theorem dX0_init_1 : decode cX0_init 1 = .ok (.invokespecial 3, 3) := by decide +kernel
theorem dX0_init_4 : decode cX0_init 4 = .ok (.aload_n 0, 1) := by decide +kernel
theorem dX0_init_5 : decode cX0_init 5 = .ok (.iconst 0, 1) := by decide +kernel
theorem dX0_init_6 : decode cX0_init 6 = .ok (.putfield 9, 3) := by decide +kernel
theorem dX0_init_9 : decode cX0_init 9 = .ok (.aload_n 0, 1) := by decide +kernel
theorem dX0_init_10 : decode cX0_init 10 = .ok (.bipush 8, 2) := by decide +kernel
theorem dX0_init_12 : decode cX0_init 12 = .ok (.newarray .int, 2) := by decide +kernel
theorem dX0_init_14 : decode cX0_init 14 = .ok (.putfield 15, 3) := by decide +kernel
theorem dX0_init_17 : decode cX0_init 17 = .ok (.aload_n 0, 1) := by decide +kernel
theorem dX0_init_18 : decode cX0_init 18 = .ok (.bipush 8, 2) := by decide +kernel
theorem dX0_init_20 : decode cX0_init 20 = .ok (.newarray .int, 2) := by decide +kernel
theorem dX0_init_22 : decode cX0_init 22 = .ok (.putfield 19, 3) := by decide +kernel
theorem dX0_init_25 : decode cX0_init 25 = .ok (.aload_n 0, 1) := by decide +kernel
theorem dX0_init_26 : decode cX0_init 26 = .ok (.bipush 8, 2) := by decide +kernel
theorem dX0_init_28 : decode cX0_init 28 = .ok (.newarray .int, 2) := by decide +kernel
theorem dX0_init_30 : decode cX0_init 30 = .ok (.putfield 22, 3) := by decide +kernel
theorem dX0_init_33 : decode cX0_init 33 = .ok (.aload_n 0, 1) := by decide +kernel
theorem dX0_init_34 : decode cX0_init 34 = .ok (.bipush 8, 2) := by decide +kernel
theorem dX0_init_36 : decode cX0_init 36 = .ok (.newarray .int, 2) := by decide +kernel
theorem dX0_init_38 : decode cX0_init 38 = .ok (.putfield 25, 3) := by decide +kernel
theorem dX0_init_41 : decode cX0_init 41 = .ok (.aload_n 0, 1) := by decide +kernel
theorem dX0_init_42 : decode cX0_init 42 = .ok (.bipush 8, 2) := by decide +kernel
theorem dX0_init_44 : decode cX0_init 44 = .ok (.newarray .int, 2) := by decide +kernel
theorem dX0_init_46 : decode cX0_init 46 = .ok (.putfield 28, 3) := by decide +kernel
theorem dX0_init_49 : decode cX0_init 49 = .ok (.aload_n 0, 1) := by decide +kernel
theorem dX0_init_50 : decode cX0_init 50 = .ok (.bipush 16, 2) := by decide +kernel
theorem dX0_init_52 : decode cX0_init 52 = .ok (.newarray .int, 2) := by decide +kernel
theorem dX0_init_54 : decode cX0_init 54 = .ok (.putfield 31, 3) := by decide +kernel
theorem dX0_init_57 : decode cX0_init 57 = .ok (.aload_n 0, 1) := by decide +kernel
theorem dX0_init_58 : decode cX0_init 58 = .ok (.bipush 16, 2) := by decide +kernel
theorem dX0_init_60 : decode cX0_init 60 = .ok (.newarray .int, 2) := by decide +kernel
theorem dX0_init_62 : decode cX0_init 62 = .ok (.putfield 34, 3) := by decide +kernel
theorem dX0_init_65 : decode cX0_init 65 = .ok (.return_, 1) := by decide +kernel
theorem dX0_become_0 : decode cX0_become 0 = .ok (.aload_n 0, 1) := by decide +kernel
theorem dX0_become_1 : decode cX0_become 1 = .ok (.aload_n 1, 1) := by decide +kernel
theorem dX0_become_2 : decode cX0_become 2 = .ok (.getfield 9, 3) := by decide +kernel
theorem dX0_become_5 : decode cX0_become 5 = .ok (.putfield 9, 3) := by decide +kernel
theorem dX0_become_8 : decode cX0_become 8 = .ok (.aload_n 1, 1) := by decide +kernel
theorem dX0_become_9 : decode cX0_become 9 = .ok (.getfield 15, 3) := by decide +kernel
theorem dX0_become_12 : decode cX0_become 12 = .ok (.iconst 0, 1) := by decide +kernel
theorem dX0_become_13 : decode cX0_become 13 = .ok (.aload_n 0, 1) := by decide +kernel
theorem dX0_become_14 : decode cX0_become 14 = .ok (.getfield 15, 3) := by decide +kernel
theorem dX0_become_17 : decode cX0_become 17 = .ok (.iconst 0, 1) := by decide +kernel
theorem dX0_become_18 : decode cX0_become 18 = .ok (.bipush 8, 2) := by decide +kernel
theorem dX0_become_20 : decode cX0_become 20 = .ok (.invokestatic 37, 3) := by decide +kernel
theorem dX0_become_23 : decode cX0_become 23 = .ok (.aload_n 1, 1) := by decide +kernel
theorem dX0_become_24 : decode cX0_become 24 = .ok (.getfield 19, 3) := by decide +kernel
theorem dX0_become_27 : decode cX0_become 27 = .ok (.iconst 0, 1) := by decide +kernel
theorem dX0_become_28 : decode cX0_become 28 = .ok (.aload_n 0, 1) := by decide +kernel
theorem dX0_become_29 : decode cX0_become 29 = .ok (.getfield 19, 3) := by decide +kernel
theorem dX0_become_32 : decode cX0_become 32 = .ok (.iconst 0, 1) := by decide +kernel
theorem dX0_become_33 : decode cX0_become 33 = .ok (.bipush 8, 2) := by decide +kernel
theorem dX0_become_35 : decode cX0_become 35 = .ok (.invokestatic 37, 3) := by decide +kernel
theorem dX0_become_38 : decode cX0_become 38 = .ok (.aload_n 1, 1) := by decide +kernel
theorem dX0_become_39 : decode cX0_become 39 = .ok (.getfield 22, 3) := by decide +kernel
theorem dX0_become_42 : decode cX0_become 42 = .ok (.iconst 0, 1) := by decide +kernel
theorem dX0_become_43 : decode cX0_become 43 = .ok (.aload_n 0, 1) := by decide +kernel
theorem dX0_become_44 : decode cX0_become 44 = .ok (.getfield 22, 3) := by decide +kernel
theorem dX0_become_47 : decode cX0_become 47 = .ok (.iconst 0, 1) := by decide +kernel
theorem dX0_become_48 : decode cX0_become 48 = .ok (.bipush 8, 2) := by decide +kernel
theorem dX0_become_50 : decode cX0_become 50 = .ok (.invokestatic 37, 3) := by decide +kernel
theorem dX0_become_53 : decode cX0_become 53 = .ok (.aload_n 1, 1) := by decide +kernel
theorem dX0_become_54 : decode cX0_become 54 = .ok (.getfield 25, 3) := by decide +kernel
theorem dX0_become_57 : decode cX0_become 57 = .ok (.iconst 0, 1) := by decide +kernel
theorem dX0_become_58 : decode cX0_become 58 = .ok (.aload_n 0, 1) := by decide +kernel
theorem dX0_become_59 : decode cX0_become 59 = .ok (.getfield 25, 3) := by decide +kernel
theorem dX0_become_62 : decode cX0_become 62 = .ok (.iconst 0, 1) := by decide +kernel
theorem dX0_become_63 : decode cX0_become 63 = .ok (.bipush 8, 2) := by decide +kernel
theorem dX0_become_65 : decode cX0_become 65 = .ok (.invokestatic 37, 3) := by decide +kernel
theorem dX0_become_68 : decode cX0_become 68 = .ok (.aload_n 1, 1) := by decide +kernel
theorem dX0_become_69 : decode cX0_become 69 = .ok (.getfield 28, 3) := by decide +kernel
theorem dX0_become_72 : decode cX0_become 72 = .ok (.iconst 0, 1) := by decide +kernel
theorem dX0_become_73 : decode cX0_become 73 = .ok (.aload_n 0, 1) := by decide +kernel
theorem dX0_become_74 : decode cX0_become 74 = .ok (.getfield 28, 3) := by decide +kernel
theorem dX0_become_77 : decode cX0_become 77 = .ok (.iconst 0, 1) := by decide +kernel
theorem dX0_become_78 : decode cX0_become 78 = .ok (.bipush 8, 2) := by decide +kernel
theorem dX0_become_80 : decode cX0_become 80 = .ok (.invokestatic 37, 3) := by decide +kernel
theorem dX0_become_83 : decode cX0_become 83 = .ok (.aload_n 1, 1) := by decide +kernel
theorem dX0_become_84 : decode cX0_become 84 = .ok (.getfield 31, 3) := by decide +kernel
theorem dX0_become_87 : decode cX0_become 87 = .ok (.iconst 0, 1) := by decide +kernel
theorem dX0_become_88 : decode cX0_become 88 = .ok (.aload_n 0, 1) := by decide +kernel
theorem dX0_become_89 : decode cX0_become 89 = .ok (.getfield 31, 3) := by decide +kernel
theorem dX0_become_92 : decode cX0_become 92 = .ok (.iconst 0, 1) := by decide +kernel
theorem dX0_become_93 : decode cX0_become 93 = .ok (.bipush 16, 2) := by decide +kernel
theorem dX0_become_95 : decode cX0_become 95 = .ok (.invokestatic 37, 3) := by decide +kernel
theorem dX0_become_98 : decode cX0_become 98 = .ok (.aload_n 1, 1) := by decide +kernel
theorem dX0_become_99 : decode cX0_become 99 = .ok (.getfield 34, 3) := by decide +kernel
theorem dX0_become_102 : decode cX0_become 102 = .ok (.iconst 0, 1) := by decide +kernel
theorem dX0_become_103 : decode cX0_become 103 = .ok (.aload_n 0, 1) := by decide +kernel
theorem dX0_become_104 : decode cX0_become 104 = .ok (.getfield 34, 3) := by decide +kernel
theorem dX0_become_107 : decode cX0_become 107 = .ok (.iconst 0, 1) := by decide +kernel
theorem dX0_become_108 : decode cX0_become 108 = .ok (.bipush 16, 2) := by decide +kernel
theorem dX0_become_110 : decode cX0_become 110 = .ok (.invokestatic 37, 3) := by decide +kernel
theorem dX0_become_113 : decode cX0_become 113 = .ok (.return_, 1) := by decide +kernel
theorem dX0_has_0 : decode cX0_has 0 = .ok (.iload_n 1, 1) := by decide +kernel
theorem dX0_has_1 : decode cX0_has 1 = .ok (.ifCond .lt 21, 3) := by decide +kernel
theorem dX0_has_4 : decode cX0_has 4 = .ok (.iload_n 1, 1) := by decide +kernel
theorem dX0_has_5 : decode cX0_has 5 = .ok (.aload_n 0, 1) := by decide +kernel
theorem dX0_has_6 : decode cX0_has 6 = .ok (.getfield 9, 3) := by decide +kernel
theorem dX0_has_9 : decode cX0_has 9 = .ok (.if_icmp .ge 13, 3) := by decide +kernel
theorem dX0_has_12 : decode cX0_has 12 = .ok (.iload_n 1, 1) := by decide +kernel
theorem dX0_has_13 : decode cX0_has 13 = .ok (.bipush 8, 2) := by decide +kernel
theorem dX0_has_15 : decode cX0_has 15 = .ok (.if_icmp .ge 7, 3) := by decide +kernel
theorem dX0_has_18 : decode cX0_has 18 = .ok (.iconst 1, 1) := by decide +kernel
theorem dX0_has_19 : decode cX0_has 19 = .ok (.goto 4, 3) := by decide +kernel
theorem dX0_has_22 : decode cX0_has 22 = .ok (.iconst 0, 1) := by decide +kernel
theorem dX0_has_23 : decode cX0_has 23 = .ok (.ireturn, 1) := by decide +kernel
theorem dX0_hasAll_0 : decode cX0_hasAll 0 = .ok (.iload_n 1, 1) := by decide +kernel
theorem dX0_hasAll_1 : decode cX0_hasAll 1 = .ok (.ifCond .lt 17, 3) := by decide +kernel
theorem dX0_hasAll_4 : decode cX0_hasAll 4 = .ok (.iload_n 1, 1) := by decide +kernel
theorem dX0_hasAll_5 : decode cX0_hasAll 5 = .ok (.iconst 1, 1) := by decide +kernel
theorem dX0_hasAll_6 : decode cX0_hasAll 6 = .ok (.aload_n 0, 1) := by decide +kernel
theorem dX0_hasAll_7 : decode cX0_hasAll 7 = .ok (.getfield 9, 3) := by decide +kernel
theorem dX0_hasAll_10 : decode cX0_hasAll 10 = .ok (.ishl, 1) := by decide +kernel
theorem dX0_hasAll_11 : decode cX0_hasAll 11 = .ok (.if_icmp .ge 7, 3) := by decide +kernel
theorem dX0_hasAll_14 : decode cX0_hasAll 14 = .ok (.iconst 1, 1) := by decide +kernel
theorem dX0_hasAll_15 : decode cX0_hasAll 15 = .ok (.goto 4, 3) := by decide +kernel
theorem dX0_hasAll_18 : decode cX0_hasAll 18 = .ok (.iconst 0, 1) := by decide +kernel
theorem dX0_hasAll_19 : decode cX0_hasAll 19 = .ok (.ireturn, 1) := by decide +kernel
theorem dX0_add_0 : decode cX0_add 0 = .ok (.iload_n 1, 1) := by decide +kernel
theorem dX0_add_1 : decode cX0_add 1 = .ok (.iconst 1, 1) := by decide +kernel
theorem dX0_add_2 : decode cX0_add 2 = .ok (.if_icmp .lt 7, 3) := by decide +kernel
theorem dX0_add_5 : decode cX0_add 5 = .ok (.iload_n 2, 1) := by decide +kernel
theorem dX0_add_6 : decode cX0_add 6 = .ok (.ifCond .ge 6, 3) := by decide +kernel
theorem dX0_add_9 : decode cX0_add 9 = .ok (.bipush (-4), 2) := by decide +kernel
theorem dX0_add_11 : decode cX0_add 11 = .ok (.ireturn, 1) := by decide +kernel
theorem dX0_add_12 : decode cX0_add 12 = .ok (.iload_n 1, 1) := by decide +kernel
theorem dX0_add_13 : decode cX0_add 13 = .ok (.bipush 99, 2) := by decide +kernel
theorem dX0_add_15 : decode cX0_add 15 = .ok (.if_icmp .gt 25, 3) := by decide +kernel
theorem dX0_add_18 : decode cX0_add 18 = .ok (.iload_n 2, 1) := by decide +kernel
theorem dX0_add_19 : decode cX0_add 19 = .ok (.bipush 99, 2) := by decide +kernel
theorem dX0_add_21 : decode cX0_add 21 = .ok (.if_icmp .gt 19, 3) := by decide +kernel
theorem dX0_add_24 : decode cX0_add 24 = .ok (.aload_n 0, 1) := by decide +kernel
theorem dX0_add_25 : decode cX0_add 25 = .ok (.getfield 9, 3) := by decide +kernel
theorem dX0_add_28 : decode cX0_add 28 = .ok (.ifCond .lt 12, 3) := by decide +kernel
theorem dX0_add_31 : decode cX0_add 31 = .ok (.aload_n 0, 1) := by decide +kernel
theorem dX0_add_32 : decode cX0_add 32 = .ok (.getfield 9, 3) := by decide +kernel
theorem dX0_add_35 : decode cX0_add 35 = .ok (.bipush 8, 2) := by decide +kernel
theorem dX0_add_37 : decode cX0_add 37 = .ok (.if_icmp .lt 6, 3) := by decide +kernel
theorem dX0_add_40 : decode cX0_add 40 = .ok (.bipush (-6), 2) := by decide +kernel
theorem dX0_add_42 : decode cX0_add 42 = .ok (.ireturn, 1) := by decide +kernel
theorem dX0_add_43 : decode cX0_add 43 = .ok (.aload_n 0, 1) := by decide +kernel
theorem dX0_add_44 : decode cX0_add 44 = .ok (.getfield 9, 3) := by decide +kernel
theorem dX0_add_47 : decode cX0_add 47 = .ok (.istore_n 3, 1) := by decide +kernel
theorem dX0_add_48 : decode cX0_add 48 = .ok (.aload_n 0, 1) := by decide +kernel
theorem dX0_add_49 : decode cX0_add 49 = .ok (.dup, 1) := by decide +kernel
theorem dX0_add_50 : decode cX0_add 50 = .ok (.getfield 9, 3) := by decide +kernel
theorem dX0_add_53 : decode cX0_add 53 = .ok (.iconst 1, 1) := by decide +kernel
theorem dX0_add_54 : decode cX0_add 54 = .ok (.iadd, 1) := by decide +kernel
theorem dX0_add_55 : decode cX0_add 55 = .ok (.putfield 9, 3) := by decide +kernel
theorem dX0_add_58 : decode cX0_add 58 = .ok (.aload_n 0, 1) := by decide +kernel
theorem dX0_add_59 : decode cX0_add 59 = .ok (.getfield 15, 3) := by decide +kernel
theorem dX0_add_62 : decode cX0_add 62 = .ok (.iload_n 3, 1) := by decide +kernel
theorem dX0_add_63 : decode cX0_add 63 = .ok (.iload_n 1, 1) := by decide +kernel
theorem dX0_add_64 : decode cX0_add 64 = .ok (.iastore, 1) := by decide +kernel
theorem dX0_add_65 : decode cX0_add 65 = .ok (.aload_n 0, 1) := by decide +kernel
theorem dX0_add_66 : decode cX0_add 66 = .ok (.getfield 19, 3) := by decide +kernel
theorem dX0_add_69 : decode cX0_add 69 = .ok (.iload_n 3, 1) := by decide +kernel
theorem dX0_add_70 : decode cX0_add 70 = .ok (.iload_n 2, 1) := by decide +kernel
theorem dX0_add_71 : decode cX0_add 71 = .ok (.iastore, 1) := by decide +kernel
theorem dX0_add_72 : decode cX0_add 72 = .ok (.aload_n 0, 1) := by decide +kernel
theorem dX0_add_73 : decode cX0_add 73 = .ok (.getfield 22, 3) := by decide +kernel
theorem dX0_add_76 : decode cX0_add 76 = .ok (.iload_n 3, 1) := by decide +kernel
theorem dX0_add_77 : decode cX0_add 77 = .ok (.bipush 50, 2) := by decide +kernel
theorem dX0_add_79 : decode cX0_add 79 = .ok (.iastore, 1) := by decide +kernel
theorem dX0_add_80 : decode cX0_add 80 = .ok (.aload_n 0, 1) := by decide +kernel
theorem dX0_add_81 : decode cX0_add 81 = .ok (.getfield 25, 3) := by decide +kernel
theorem dX0_add_84 : decode cX0_add 84 = .ok (.iload_n 3, 1) := by decide +kernel
theorem dX0_add_85 : decode cX0_add 85 = .ok (.bipush 20, 2) := by decide +kernel
theorem dX0_add_87 : decode cX0_add 87 = .ok (.iastore, 1) := by decide +kernel
theorem dX0_add_88 : decode cX0_add 88 = .ok (.aload_n 0, 1) := by decide +kernel
theorem dX0_add_89 : decode cX0_add 89 = .ok (.getfield 28, 3) := by decide +kernel
theorem dX0_add_92 : decode cX0_add 92 = .ok (.iload_n 3, 1) := by decide +kernel
theorem dX0_add_93 : decode cX0_add 93 = .ok (.iconst 1, 1) := by decide +kernel
theorem dX0_add_94 : decode cX0_add 94 = .ok (.iastore, 1) := by decide +kernel
theorem dX0_add_95 : decode cX0_add 95 = .ok (.iload_n 3, 1) := by decide +kernel
theorem dX0_add_96 : decode cX0_add 96 = .ok (.ireturn, 1) := by decide +kernel
theorem dX0_valuesOf_0 : decode cX0_valuesOf 0 = .ok (.iload_n 1, 1) := by decide +kernel
theorem dX0_valuesOf_1 : decode cX0_valuesOf 1 = .ok (.tableswitch 42 0 2 #[27, 32, 37], 27) := by decide +kernel
theorem dX0_valuesOf_28 : decode cX0_valuesOf 28 = .ok (.aload_n 0, 1) := by decide +kernel
theorem dX0_valuesOf_29 : decode cX0_valuesOf 29 = .ok (.getfield 22, 3) := by decide +kernel
theorem dX0_valuesOf_32 : decode cX0_valuesOf 32 = .ok (.areturn, 1) := by decide +kernel
theorem dX0_valuesOf_33 : decode cX0_valuesOf 33 = .ok (.aload_n 0, 1) := by decide +kernel
theorem dX0_valuesOf_34 : decode cX0_valuesOf 34 = .ok (.getfield 25, 3) := by decide +kernel
theorem dX0_valuesOf_37 : decode cX0_valuesOf 37 = .ok (.areturn, 1) := by decide +kernel
theorem dX0_valuesOf_38 : decode cX0_valuesOf 38 = .ok (.aload_n 0, 1) := by decide +kernel
theorem dX0_valuesOf_39 : decode cX0_valuesOf 39 = .ok (.getfield 28, 3) := by decide +kernel
theorem dX0_valuesOf_42 : decode cX0_valuesOf 42 = .ok (.areturn, 1) := by decide +kernel
theorem dX0_valuesOf_43 : decode cX0_valuesOf 43 = .ok (.aload_n 0, 1) := by decide +kernel
theorem dX0_valuesOf_44 : decode cX0_valuesOf 44 = .ok (.getfield 19, 3) := by decide +kernel
theorem dX0_valuesOf_47 : decode cX0_valuesOf 47 = .ok (.areturn, 1) := by decide +kernel
theorem dX0_heapsOf_0 : decode cX0_heapsOf 0 = .ok (.iload_n 1, 1) := by decide +kernel
theorem dX0_heapsOf_1 : decode cX0_heapsOf 1 = .ok (.ifCond .eq 10, 3) := by decide +kernel
theorem dX0_heapsOf_4 : decode cX0_heapsOf 4 = .ok (.aload_n 0, 1) := by decide +kernel
theorem dX0_heapsOf_5 : decode cX0_heapsOf 5 = .ok (.getfield 31, 3) := by decide +kernel
theorem dX0_heapsOf_8 : decode cX0_heapsOf 8 = .ok (.goto 7, 3) := by decide +kernel
theorem dX0_heapsOf_11 : decode cX0_heapsOf 11 = .ok (.aload_n 0, 1) := by decide +kernel
theorem dX0_heapsOf_12 : decode cX0_heapsOf 12 = .ok (.getfield 34, 3) := by decide +kernel
theorem dX0_heapsOf_15 : decode cX0_heapsOf 15 = .ok (.areturn, 1) := by decide +kernel
theorem dX0_settledIn_0 : decode cX0_settledIn 0 = .ok (.iload_n 1, 1) := by decide +kernel
theorem dX0_settledIn_1 : decode cX0_settledIn 1 = .ok (.ifCond .lt 9, 3) := by decide +kernel
theorem dX0_settledIn_4 : decode cX0_settledIn 4 = .ok (.iload_n 1, 1) := by decide +kernel
theorem dX0_settledIn_5 : decode cX0_settledIn 5 = .ok (.bipush 8, 2) := by decide +kernel
theorem dX0_settledIn_7 : decode cX0_settledIn 7 = .ok (.if_icmp .lt 5, 3) := by decide +kernel
theorem dX0_settledIn_10 : decode cX0_settledIn 10 = .ok (.iconst 0, 1) := by decide +kernel
theorem dX0_settledIn_11 : decode cX0_settledIn 11 = .ok (.ireturn, 1) := by decide +kernel
theorem dX0_settledIn_12 : decode cX0_settledIn 12 = .ok (.aload_n 0, 1) := by decide +kernel
theorem dX0_settledIn_13 : decode cX0_settledIn 13 = .ok (.getfield 34, 3) := by decide +kernel
theorem dX0_settledIn_16 : decode cX0_settledIn 16 = .ok (.iload_n 1, 1) := by decide +kernel
theorem dX0_settledIn_17 : decode cX0_settledIn 17 = .ok (.iaload, 1) := by decide +kernel
theorem dX0_settledIn_18 : decode cX0_settledIn 18 = .ok (.aload_n 0, 1) := by decide +kernel
theorem dX0_settledIn_19 : decode cX0_settledIn 19 = .ok (.getfield 34, 3) := by decide +kernel
theorem dX0_settledIn_22 : decode cX0_settledIn 22 = .ok (.bipush 8, 2) := by decide +kernel
theorem dX0_settledIn_24 : decode cX0_settledIn 24 = .ok (.iload_n 1, 1) := by decide +kernel
theorem dX0_settledIn_25 : decode cX0_settledIn 25 = .ok (.iadd, 1) := by decide +kernel
theorem dX0_settledIn_26 : decode cX0_settledIn 26 = .ok (.iaload, 1) := by decide +kernel
theorem dX0_settledIn_27 : decode cX0_settledIn 27 = .ok (.iadd, 1) := by decide +kernel
theorem dX0_settledIn_28 : decode cX0_settledIn 28 = .ok (.ireturn, 1) := by decide +kernel
theorem dX0_depthOf_0 : decode cX0_depthOf 0 = .ok (.iload_n 1, 1) := by decide +kernel
theorem dX0_depthOf_1 : decode cX0_depthOf 1 = .ok (.ifCond .lt 9, 3) := by decide +kernel
theorem dX0_depthOf_4 : decode cX0_depthOf 4 = .ok (.iload_n 1, 1) := by decide +kernel
theorem dX0_depthOf_5 : decode cX0_depthOf 5 = .ok (.bipush 8, 2) := by decide +kernel
theorem dX0_depthOf_7 : decode cX0_depthOf 7 = .ok (.if_icmp .lt 5, 3) := by decide +kernel
theorem dX0_depthOf_10 : decode cX0_depthOf 10 = .ok (.iconst 0, 1) := by decide +kernel
theorem dX0_depthOf_11 : decode cX0_depthOf 11 = .ok (.ireturn, 1) := by decide +kernel
theorem dX0_depthOf_12 : decode cX0_depthOf 12 = .ok (.aload_n 0, 1) := by decide +kernel
theorem dX0_depthOf_13 : decode cX0_depthOf 13 = .ok (.iload_n 1, 1) := by decide +kernel
theorem dX0_depthOf_14 : decode cX0_depthOf 14 = .ok (.invokevirtual 43, 3) := by decide +kernel
theorem dX0_depthOf_17 : decode cX0_depthOf 17 = .ok (.aload_n 0, 1) := by decide +kernel
theorem dX0_depthOf_18 : decode cX0_depthOf 18 = .ok (.getfield 15, 3) := by decide +kernel
theorem dX0_depthOf_21 : decode cX0_depthOf 21 = .ok (.iload_n 1, 1) := by decide +kernel
theorem dX0_depthOf_22 : decode cX0_depthOf 22 = .ok (.iaload, 1) := by decide +kernel
theorem dX0_depthOf_23 : decode cX0_depthOf 23 = .ok (.invokestatic 47, 3) := by decide +kernel
theorem dX0_depthOf_26 : decode cX0_depthOf 26 = .ok (.ireturn, 1) := by decide +kernel
theorem dX0_lackOf_0 : decode cX0_lackOf 0 = .ok (.iload_n 1, 1) := by decide +kernel
theorem dX0_lackOf_1 : decode cX0_lackOf 1 = .ok (.ifCond .lt 9, 3) := by decide +kernel
theorem dX0_lackOf_4 : decode cX0_lackOf 4 = .ok (.iload_n 1, 1) := by decide +kernel
theorem dX0_lackOf_5 : decode cX0_lackOf 5 = .ok (.bipush 8, 2) := by decide +kernel
theorem dX0_lackOf_7 : decode cX0_lackOf 7 = .ok (.if_icmp .lt 5, 3) := by decide +kernel
theorem dX0_lackOf_10 : decode cX0_lackOf 10 = .ok (.iconst 0, 1) := by decide +kernel
theorem dX0_lackOf_11 : decode cX0_lackOf 11 = .ok (.ireturn, 1) := by decide +kernel
theorem dX0_lackOf_12 : decode cX0_lackOf 12 = .ok (.aload_n 0, 1) := by decide +kernel
theorem dX0_lackOf_13 : decode cX0_lackOf 13 = .ok (.getfield 19, 3) := by decide +kernel
theorem dX0_lackOf_16 : decode cX0_lackOf 16 = .ok (.iload_n 1, 1) := by decide +kernel
theorem dX0_lackOf_17 : decode cX0_lackOf 17 = .ok (.iaload, 1) := by decide +kernel
theorem dX0_lackOf_18 : decode cX0_lackOf 18 = .ok (.aload_n 0, 1) := by decide +kernel
theorem dX0_lackOf_19 : decode cX0_lackOf 19 = .ok (.iload_n 1, 1) := by decide +kernel
theorem dX0_lackOf_20 : decode cX0_lackOf 20 = .ok (.invokevirtual 43, 3) := by decide +kernel
theorem dX0_lackOf_23 : decode cX0_lackOf 23 = .ok (.aload_n 0, 1) := by decide +kernel
theorem dX0_lackOf_24 : decode cX0_lackOf 24 = .ok (.getfield 15, 3) := by decide +kernel
theorem dX0_lackOf_27 : decode cX0_lackOf 27 = .ok (.iload_n 1, 1) := by decide +kernel
theorem dX0_lackOf_28 : decode cX0_lackOf 28 = .ok (.iaload, 1) := by decide +kernel
theorem dX0_lackOf_29 : decode cX0_lackOf 29 = .ok (.invokestatic 47, 3) := by decide +kernel
theorem dX0_lackOf_32 : decode cX0_lackOf 32 = .ok (.isub, 1) := by decide +kernel
theorem dX0_lackOf_33 : decode cX0_lackOf 33 = .ok (.ireturn, 1) := by decide +kernel
theorem dX0_someLack_0 : decode cX0_someLack 0 = .ok (.iconst 0, 1) := by decide +kernel
theorem dX0_someLack_1 : decode cX0_someLack 1 = .ok (.istore_n 1, 1) := by decide +kernel
theorem dX0_someLack_2 : decode cX0_someLack 2 = .ok (.iload_n 1, 1) := by decide +kernel
theorem dX0_someLack_3 : decode cX0_someLack 3 = .ok (.aload_n 0, 1) := by decide +kernel
theorem dX0_someLack_4 : decode cX0_someLack 4 = .ok (.getfield 9, 3) := by decide +kernel
theorem dX0_someLack_7 : decode cX0_someLack 7 = .ok (.if_icmp .ge 19, 3) := by decide +kernel
theorem dX0_someLack_10 : decode cX0_someLack 10 = .ok (.aload_n 0, 1) := by decide +kernel
theorem dX0_someLack_11 : decode cX0_someLack 11 = .ok (.iload_n 1, 1) := by decide +kernel
theorem dX0_someLack_12 : decode cX0_someLack 12 = .ok (.invokevirtual 51, 3) := by decide +kernel
theorem dX0_someLack_15 : decode cX0_someLack 15 = .ok (.ifCond .le 5, 3) := by decide +kernel
theorem dX0_someLack_18 : decode cX0_someLack 18 = .ok (.iconst 1, 1) := by decide +kernel
theorem dX0_someLack_19 : decode cX0_someLack 19 = .ok (.ireturn, 1) := by decide +kernel
theorem dX0_someLack_20 : decode cX0_someLack 20 = .ok (.iinc 1 1, 3) := by decide +kernel
theorem dX0_someLack_23 : decode cX0_someLack 23 = .ok (.goto (-21), 3) := by decide +kernel
theorem dX0_someLack_26 : decode cX0_someLack 26 = .ok (.iconst 0, 1) := by decide +kernel
theorem dX0_someLack_27 : decode cX0_someLack 27 = .ok (.ireturn, 1) := by decide +kernel
theorem dX0_feetLacked_0 : decode cX0_feetLacked 0 = .ok (.iconst 0, 1) := by decide +kernel
theorem dX0_feetLacked_1 : decode cX0_feetLacked 1 = .ok (.istore_n 1, 1) := by decide +kernel
theorem dX0_feetLacked_2 : decode cX0_feetLacked 2 = .ok (.iconst 0, 1) := by decide +kernel
theorem dX0_feetLacked_3 : decode cX0_feetLacked 3 = .ok (.istore_n 2, 1) := by decide +kernel
theorem dX0_feetLacked_4 : decode cX0_feetLacked 4 = .ok (.iload_n 2, 1) := by decide +kernel
theorem dX0_feetLacked_5 : decode cX0_feetLacked 5 = .ok (.aload_n 0, 1) := by decide +kernel
theorem dX0_feetLacked_6 : decode cX0_feetLacked 6 = .ok (.getfield 9, 3) := by decide +kernel
theorem dX0_feetLacked_9 : decode cX0_feetLacked 9 = .ok (.if_icmp .ge 21, 3) := by decide +kernel
theorem dX0_feetLacked_12 : decode cX0_feetLacked 12 = .ok (.iload_n 1, 1) := by decide +kernel
theorem dX0_feetLacked_13 : decode cX0_feetLacked 13 = .ok (.iconst 0, 1) := by decide +kernel
theorem dX0_feetLacked_14 : decode cX0_feetLacked 14 = .ok (.aload_n 0, 1) := by decide +kernel
theorem dX0_feetLacked_15 : decode cX0_feetLacked 15 = .ok (.iload_n 2, 1) := by decide +kernel
theorem dX0_feetLacked_16 : decode cX0_feetLacked 16 = .ok (.invokevirtual 51, 3) := by decide +kernel
theorem dX0_feetLacked_19 : decode cX0_feetLacked 19 = .ok (.invokestatic 54, 3) := by decide +kernel
theorem dX0_feetLacked_22 : decode cX0_feetLacked 22 = .ok (.iadd, 1) := by decide +kernel
theorem dX0_feetLacked_23 : decode cX0_feetLacked 23 = .ok (.istore_n 1, 1) := by decide +kernel
theorem dX0_feetLacked_24 : decode cX0_feetLacked 24 = .ok (.iinc 2 1, 3) := by decide +kernel
theorem dX0_feetLacked_27 : decode cX0_feetLacked 27 = .ok (.goto (-23), 3) := by decide +kernel
theorem dX0_feetLacked_30 : decode cX0_feetLacked 30 = .ok (.iload_n 1, 1) := by decide +kernel
theorem dX0_feetLacked_31 : decode cX0_feetLacked 31 = .ok (.ireturn, 1) := by decide +kernel
theorem dX0_priceOfLacks_0 : decode cX0_priceOfLacks 0 = .ok (.lconst 0, 1) := by decide +kernel
theorem dX0_priceOfLacks_1 : decode cX0_priceOfLacks 1 = .ok (.lstore_n 1, 1) := by decide +kernel
theorem dX0_priceOfLacks_2 : decode cX0_priceOfLacks 2 = .ok (.iconst 0, 1) := by decide +kernel
theorem dX0_priceOfLacks_3 : decode cX0_priceOfLacks 3 = .ok (.istore_n 3, 1) := by decide +kernel
theorem dX0_priceOfLacks_4 : decode cX0_priceOfLacks 4 = .ok (.iload_n 3, 1) := by decide +kernel
theorem dX0_priceOfLacks_5 : decode cX0_priceOfLacks 5 = .ok (.aload_n 0, 1) := by decide +kernel
theorem dX0_priceOfLacks_6 : decode cX0_priceOfLacks 6 = .ok (.getfield 9, 3) := by decide +kernel
theorem dX0_priceOfLacks_9 : decode cX0_priceOfLacks 9 = .ok (.if_icmp .ge 30, 3) := by decide +kernel
theorem dX0_priceOfLacks_12 : decode cX0_priceOfLacks 12 = .ok (.lload_n 1, 1) := by decide +kernel
theorem dX0_priceOfLacks_13 : decode cX0_priceOfLacks 13 = .ok (.iconst 0, 1) := by decide +kernel
theorem dX0_priceOfLacks_14 : decode cX0_priceOfLacks 14 = .ok (.aload_n 0, 1) := by decide +kernel
theorem dX0_priceOfLacks_15 : decode cX0_priceOfLacks 15 = .ok (.iload_n 3, 1) := by decide +kernel
theorem dX0_priceOfLacks_16 : decode cX0_priceOfLacks 16 = .ok (.invokevirtual 51, 3) := by decide +kernel
theorem dX0_priceOfLacks_19 : decode cX0_priceOfLacks 19 = .ok (.invokestatic 54, 3) := by decide +kernel
theorem dX0_priceOfLacks_22 : decode cX0_priceOfLacks 22 = .ok (.i2l, 1) := by decide +kernel
theorem dX0_priceOfLacks_23 : decode cX0_priceOfLacks 23 = .ok (.aload_n 0, 1) := by decide +kernel
theorem dX0_priceOfLacks_24 : decode cX0_priceOfLacks 24 = .ok (.getfield 28, 3) := by decide +kernel
theorem dX0_priceOfLacks_27 : decode cX0_priceOfLacks 27 = .ok (.iload_n 3, 1) := by decide +kernel
theorem dX0_priceOfLacks_28 : decode cX0_priceOfLacks 28 = .ok (.iaload, 1) := by decide +kernel
theorem dX0_priceOfLacks_29 : decode cX0_priceOfLacks 29 = .ok (.i2l, 1) := by decide +kernel
theorem dX0_priceOfLacks_30 : decode cX0_priceOfLacks 30 = .ok (.lmul, 1) := by decide +kernel
theorem dX0_priceOfLacks_31 : decode cX0_priceOfLacks 31 = .ok (.ladd, 1) := by decide +kernel
theorem dX0_priceOfLacks_32 : decode cX0_priceOfLacks 32 = .ok (.lstore_n 1, 1) := by decide +kernel
theorem dX0_priceOfLacks_33 : decode cX0_priceOfLacks 33 = .ok (.iinc 3 1, 3) := by decide +kernel
theorem dX0_priceOfLacks_36 : decode cX0_priceOfLacks 36 = .ok (.goto (-32), 3) := by decide +kernel
theorem dX0_priceOfLacks_39 : decode cX0_priceOfLacks 39 = .ok (.lload_n 1, 1) := by decide +kernel
theorem dX0_priceOfLacks_40 : decode cX0_priceOfLacks 40 = .ok (.lreturn, 1) := by decide +kernel
theorem dX0_settledInAll_0 : decode cX0_settledInAll 0 = .ok (.iconst 0, 1) := by decide +kernel
theorem dX0_settledInAll_1 : decode cX0_settledInAll 1 = .ok (.istore_n 1, 1) := by decide +kernel
theorem dX0_settledInAll_2 : decode cX0_settledInAll 2 = .ok (.iconst 0, 1) := by decide +kernel
theorem dX0_settledInAll_3 : decode cX0_settledInAll 3 = .ok (.istore_n 2, 1) := by decide +kernel
theorem dX0_settledInAll_4 : decode cX0_settledInAll 4 = .ok (.iload_n 2, 1) := by decide +kernel
theorem dX0_settledInAll_5 : decode cX0_settledInAll 5 = .ok (.aload_n 0, 1) := by decide +kernel
theorem dX0_settledInAll_6 : decode cX0_settledInAll 6 = .ok (.getfield 9, 3) := by decide +kernel
theorem dX0_settledInAll_9 : decode cX0_settledInAll 9 = .ok (.if_icmp .ge 17, 3) := by decide +kernel
theorem dX0_settledInAll_12 : decode cX0_settledInAll 12 = .ok (.iload_n 1, 1) := by decide +kernel
theorem dX0_settledInAll_13 : decode cX0_settledInAll 13 = .ok (.aload_n 0, 1) := by decide +kernel
theorem dX0_settledInAll_14 : decode cX0_settledInAll 14 = .ok (.iload_n 2, 1) := by decide +kernel
theorem dX0_settledInAll_15 : decode cX0_settledInAll 15 = .ok (.invokevirtual 43, 3) := by decide +kernel
theorem dX0_settledInAll_18 : decode cX0_settledInAll 18 = .ok (.iadd, 1) := by decide +kernel
theorem dX0_settledInAll_19 : decode cX0_settledInAll 19 = .ok (.istore_n 1, 1) := by decide +kernel
theorem dX0_settledInAll_20 : decode cX0_settledInAll 20 = .ok (.iinc 2 1, 3) := by decide +kernel
theorem dX0_settledInAll_23 : decode cX0_settledInAll 23 = .ok (.goto (-19), 3) := by decide +kernel
theorem dX0_settledInAll_26 : decode cX0_settledInAll 26 = .ok (.iload_n 1, 1) := by decide +kernel
theorem dX0_settledInAll_27 : decode cX0_settledInAll 27 = .ok (.ireturn, 1) := by decide +kernel
theorem dX0_tonsInSet_0 : decode cX0_tonsInSet 0 = .ok (.iconst 0, 1) := by decide +kernel
theorem dX0_tonsInSet_1 : decode cX0_tonsInSet 1 = .ok (.istore_n 3, 1) := by decide +kernel
theorem dX0_tonsInSet_2 : decode cX0_tonsInSet 2 = .ok (.iconst 0, 1) := by decide +kernel
theorem dX0_tonsInSet_3 : decode cX0_tonsInSet 3 = .ok (.istore 4, 2) := by decide +kernel
theorem dX0_tonsInSet_5 : decode cX0_tonsInSet 5 = .ok (.iload 4, 2) := by decide +kernel
theorem dX0_tonsInSet_7 : decode cX0_tonsInSet 7 = .ok (.aload_n 0, 1) := by decide +kernel
theorem dX0_tonsInSet_8 : decode cX0_tonsInSet 8 = .ok (.getfield 9, 3) := by decide +kernel
theorem dX0_tonsInSet_11 : decode cX0_tonsInSet 11 = .ok (.if_icmp .ge 52, 3) := by decide +kernel
theorem dX0_tonsInSet_14 : decode cX0_tonsInSet 14 = .ok (.iload_n 1, 1) := by decide +kernel
theorem dX0_tonsInSet_15 : decode cX0_tonsInSet 15 = .ok (.iload 4, 2) := by decide +kernel
theorem dX0_tonsInSet_17 : decode cX0_tonsInSet 17 = .ok (.ishr, 1) := by decide +kernel
theorem dX0_tonsInSet_18 : decode cX0_tonsInSet 18 = .ok (.iconst 1, 1) := by decide +kernel
theorem dX0_tonsInSet_19 : decode cX0_tonsInSet 19 = .ok (.iand, 1) := by decide +kernel
theorem dX0_tonsInSet_20 : decode cX0_tonsInSet 20 = .ok (.iconst 1, 1) := by decide +kernel
theorem dX0_tonsInSet_21 : decode cX0_tonsInSet 21 = .ok (.if_icmp .ne 36, 3) := by decide +kernel
theorem dX0_tonsInSet_24 : decode cX0_tonsInSet 24 = .ok (.iload_n 2, 1) := by decide +kernel
theorem dX0_tonsInSet_25 : decode cX0_tonsInSet 25 = .ok (.invokestatic 59, 3) := by decide +kernel
theorem dX0_tonsInSet_28 : decode cX0_tonsInSet 28 = .ok (.ifCond .eq 29, 3) := by decide +kernel
theorem dX0_tonsInSet_31 : decode cX0_tonsInSet 31 = .ok (.iload 4, 2) := by decide +kernel
theorem dX0_tonsInSet_33 : decode cX0_tonsInSet 33 = .ok (.iload_n 2, 1) := by decide +kernel
theorem dX0_tonsInSet_34 : decode cX0_tonsInSet 34 = .ok (.invokestatic 63, 3) := by decide +kernel
theorem dX0_tonsInSet_37 : decode cX0_tonsInSet 37 = .ok (.istore 5, 2) := by decide +kernel
theorem dX0_tonsInSet_39 : decode cX0_tonsInSet 39 = .ok (.iload_n 3, 1) := by decide +kernel
theorem dX0_tonsInSet_40 : decode cX0_tonsInSet 40 = .ok (.aload_n 0, 1) := by decide +kernel
theorem dX0_tonsInSet_41 : decode cX0_tonsInSet 41 = .ok (.getfield 31, 3) := by decide +kernel
theorem dX0_tonsInSet_44 : decode cX0_tonsInSet 44 = .ok (.iload 5, 2) := by decide +kernel
theorem dX0_tonsInSet_46 : decode cX0_tonsInSet 46 = .ok (.iaload, 1) := by decide +kernel
theorem dX0_tonsInSet_47 : decode cX0_tonsInSet 47 = .ok (.aload_n 0, 1) := by decide +kernel
theorem dX0_tonsInSet_48 : decode cX0_tonsInSet 48 = .ok (.getfield 34, 3) := by decide +kernel
theorem dX0_tonsInSet_51 : decode cX0_tonsInSet 51 = .ok (.iload 5, 2) := by decide +kernel
theorem dX0_tonsInSet_53 : decode cX0_tonsInSet 53 = .ok (.iaload, 1) := by decide +kernel
theorem dX0_tonsInSet_54 : decode cX0_tonsInSet 54 = .ok (.iadd, 1) := by decide +kernel
theorem dX0_tonsInSet_55 : decode cX0_tonsInSet 55 = .ok (.iadd, 1) := by decide +kernel
theorem dX0_tonsInSet_56 : decode cX0_tonsInSet 56 = .ok (.istore_n 3, 1) := by decide +kernel
theorem dX0_tonsInSet_57 : decode cX0_tonsInSet 57 = .ok (.iinc 4 1, 3) := by decide +kernel
theorem dX0_tonsInSet_60 : decode cX0_tonsInSet 60 = .ok (.goto (-55), 3) := by decide +kernel
theorem dX0_tonsInSet_63 : decode cX0_tonsInSet 63 = .ok (.iload_n 3, 1) := by decide +kernel
theorem dX0_tonsInSet_64 : decode cX0_tonsInSet 64 = .ok (.ireturn, 1) := by decide +kernel
theorem dX0_tonsInAll_0 : decode cX0_tonsInAll 0 = .ok (.sipush 255, 3) := by decide +kernel
theorem dX0_tonsInAll_3 : decode cX0_tonsInAll 3 = .ok (.istore_n 1, 1) := by decide +kernel
theorem dX0_tonsInAll_4 : decode cX0_tonsInAll 4 = .ok (.aload_n 0, 1) := by decide +kernel
theorem dX0_tonsInAll_5 : decode cX0_tonsInAll 5 = .ok (.iload_n 1, 1) := by decide +kernel
theorem dX0_tonsInAll_6 : decode cX0_tonsInAll 6 = .ok (.iconst 0, 1) := by decide +kernel
theorem dX0_tonsInAll_7 : decode cX0_tonsInAll 7 = .ok (.invokevirtual 66, 3) := by decide +kernel
theorem dX0_tonsInAll_10 : decode cX0_tonsInAll 10 = .ok (.aload_n 0, 1) := by decide +kernel
theorem dX0_tonsInAll_11 : decode cX0_tonsInAll 11 = .ok (.iload_n 1, 1) := by decide +kernel
theorem dX0_tonsInAll_12 : decode cX0_tonsInAll 12 = .ok (.iconst 1, 1) := by decide +kernel
theorem dX0_tonsInAll_13 : decode cX0_tonsInAll 13 = .ok (.invokevirtual 66, 3) := by decide +kernel
theorem dX0_tonsInAll_16 : decode cX0_tonsInAll 16 = .ok (.iadd, 1) := by decide +kernel
theorem dX0_tonsInAll_17 : decode cX0_tonsInAll 17 = .ok (.ireturn, 1) := by decide +kernel
theorem dX0_stir_0 : decode cX0_stir 0 = .ok (.iconst 0, 1) := by decide +kernel
theorem dX0_stir_1 : decode cX0_stir 1 = .ok (.istore_n 1, 1) := by decide +kernel
theorem dX0_stir_2 : decode cX0_stir 2 = .ok (.iload_n 1, 1) := by decide +kernel
theorem dX0_stir_3 : decode cX0_stir 3 = .ok (.aload_n 0, 1) := by decide +kernel
theorem dX0_stir_4 : decode cX0_stir 4 = .ok (.getfield 9, 3) := by decide +kernel
theorem dX0_stir_7 : decode cX0_stir 7 = .ok (.if_icmp .ge 67, 3) := by decide +kernel
theorem dX0_stir_10 : decode cX0_stir 10 = .ok (.iconst 0, 1) := by decide +kernel
theorem dX0_stir_11 : decode cX0_stir 11 = .ok (.istore_n 2, 1) := by decide +kernel
theorem dX0_stir_12 : decode cX0_stir 12 = .ok (.iload_n 2, 1) := by decide +kernel
theorem dX0_stir_13 : decode cX0_stir 13 = .ok (.iconst 2, 1) := by decide +kernel
theorem dX0_stir_14 : decode cX0_stir 14 = .ok (.if_icmp .ge 54, 3) := by decide +kernel
theorem dX0_stir_17 : decode cX0_stir 17 = .ok (.iload_n 1, 1) := by decide +kernel
theorem dX0_stir_18 : decode cX0_stir 18 = .ok (.iload_n 2, 1) := by decide +kernel
theorem dX0_stir_19 : decode cX0_stir 19 = .ok (.invokestatic 63, 3) := by decide +kernel
theorem dX0_stir_22 : decode cX0_stir 22 = .ok (.istore_n 3, 1) := by decide +kernel
theorem dX0_stir_23 : decode cX0_stir 23 = .ok (.aload_n 0, 1) := by decide +kernel
theorem dX0_stir_24 : decode cX0_stir 24 = .ok (.getfield 34, 3) := by decide +kernel
theorem dX0_stir_27 : decode cX0_stir 27 = .ok (.iload_n 3, 1) := by decide +kernel
theorem dX0_stir_28 : decode cX0_stir 28 = .ok (.iaload, 1) := by decide +kernel
theorem dX0_stir_29 : decode cX0_stir 29 = .ok (.aload_n 0, 1) := by decide +kernel
theorem dX0_stir_30 : decode cX0_stir 30 = .ok (.getfield 25, 3) := by decide +kernel
theorem dX0_stir_33 : decode cX0_stir 33 = .ok (.iload_n 1, 1) := by decide +kernel
theorem dX0_stir_34 : decode cX0_stir 34 = .ok (.iaload, 1) := by decide +kernel
theorem dX0_stir_35 : decode cX0_stir 35 = .ok (.invokestatic 69, 3) := by decide +kernel
theorem dX0_stir_38 : decode cX0_stir 38 = .ok (.istore 4, 2) := by decide +kernel
theorem dX0_stir_40 : decode cX0_stir 40 = .ok (.aload_n 0, 1) := by decide +kernel
theorem dX0_stir_41 : decode cX0_stir 41 = .ok (.getfield 34, 3) := by decide +kernel
theorem dX0_stir_44 : decode cX0_stir 44 = .ok (.iload_n 3, 1) := by decide +kernel
theorem dX0_stir_45 : decode cX0_stir 45 = .ok (.dup2, 1) := by decide +kernel
theorem dX0_stir_46 : decode cX0_stir 46 = .ok (.iaload, 1) := by decide +kernel
theorem dX0_stir_47 : decode cX0_stir 47 = .ok (.iload 4, 2) := by decide +kernel
theorem dX0_stir_49 : decode cX0_stir 49 = .ok (.isub, 1) := by decide +kernel
theorem dX0_stir_50 : decode cX0_stir 50 = .ok (.iastore, 1) := by decide +kernel
theorem dX0_stir_51 : decode cX0_stir 51 = .ok (.aload_n 0, 1) := by decide +kernel
theorem dX0_stir_52 : decode cX0_stir 52 = .ok (.getfield 31, 3) := by decide +kernel
theorem dX0_stir_55 : decode cX0_stir 55 = .ok (.iload_n 3, 1) := by decide +kernel
theorem dX0_stir_56 : decode cX0_stir 56 = .ok (.dup2, 1) := by decide +kernel
theorem dX0_stir_57 : decode cX0_stir 57 = .ok (.iaload, 1) := by decide +kernel
theorem dX0_stir_58 : decode cX0_stir 58 = .ok (.iload 4, 2) := by decide +kernel
theorem dX0_stir_60 : decode cX0_stir 60 = .ok (.iadd, 1) := by decide +kernel
theorem dX0_stir_61 : decode cX0_stir 61 = .ok (.iastore, 1) := by decide +kernel
theorem dX0_stir_62 : decode cX0_stir 62 = .ok (.iinc 2 1, 3) := by decide +kernel
theorem dX0_stir_65 : decode cX0_stir 65 = .ok (.goto (-53), 3) := by decide +kernel
theorem dX0_stir_68 : decode cX0_stir 68 = .ok (.iinc 1 1, 3) := by decide +kernel
theorem dX0_stir_71 : decode cX0_stir 71 = .ok (.goto (-69), 3) := by decide +kernel
theorem dX0_stir_74 : decode cX0_stir 74 = .ok (.return_, 1) := by decide +kernel
theorem dX0_settle_0 : decode cX0_settle 0 = .ok (.iconst 0, 1) := by decide +kernel
theorem dX0_settle_1 : decode cX0_settle 1 = .ok (.istore_n 1, 1) := by decide +kernel
theorem dX0_settle_2 : decode cX0_settle 2 = .ok (.iload_n 1, 1) := by decide +kernel
theorem dX0_settle_3 : decode cX0_settle 3 = .ok (.aload_n 0, 1) := by decide +kernel
theorem dX0_settle_4 : decode cX0_settle 4 = .ok (.getfield 9, 3) := by decide +kernel
theorem dX0_settle_7 : decode cX0_settle 7 = .ok (.if_icmp .ge 67, 3) := by decide +kernel
theorem dX0_settle_10 : decode cX0_settle 10 = .ok (.iconst 0, 1) := by decide +kernel
theorem dX0_settle_11 : decode cX0_settle 11 = .ok (.istore_n 2, 1) := by decide +kernel
theorem dX0_settle_12 : decode cX0_settle 12 = .ok (.iload_n 2, 1) := by decide +kernel
theorem dX0_settle_13 : decode cX0_settle 13 = .ok (.iconst 2, 1) := by decide +kernel
theorem dX0_settle_14 : decode cX0_settle 14 = .ok (.if_icmp .ge 54, 3) := by decide +kernel
theorem dX0_settle_17 : decode cX0_settle 17 = .ok (.iload_n 1, 1) := by decide +kernel
theorem dX0_settle_18 : decode cX0_settle 18 = .ok (.iload_n 2, 1) := by decide +kernel
theorem dX0_settle_19 : decode cX0_settle 19 = .ok (.invokestatic 63, 3) := by decide +kernel
theorem dX0_settle_22 : decode cX0_settle 22 = .ok (.istore_n 3, 1) := by decide +kernel
theorem dX0_settle_23 : decode cX0_settle 23 = .ok (.aload_n 0, 1) := by decide +kernel
theorem dX0_settle_24 : decode cX0_settle 24 = .ok (.getfield 31, 3) := by decide +kernel
theorem dX0_settle_27 : decode cX0_settle 27 = .ok (.iload_n 3, 1) := by decide +kernel
theorem dX0_settle_28 : decode cX0_settle 28 = .ok (.iaload, 1) := by decide +kernel
theorem dX0_settle_29 : decode cX0_settle 29 = .ok (.aload_n 0, 1) := by decide +kernel
theorem dX0_settle_30 : decode cX0_settle 30 = .ok (.getfield 22, 3) := by decide +kernel
theorem dX0_settle_33 : decode cX0_settle 33 = .ok (.iload_n 1, 1) := by decide +kernel
theorem dX0_settle_34 : decode cX0_settle 34 = .ok (.iaload, 1) := by decide +kernel
theorem dX0_settle_35 : decode cX0_settle 35 = .ok (.invokestatic 69, 3) := by decide +kernel
theorem dX0_settle_38 : decode cX0_settle 38 = .ok (.istore 4, 2) := by decide +kernel
theorem dX0_settle_40 : decode cX0_settle 40 = .ok (.aload_n 0, 1) := by decide +kernel
theorem dX0_settle_41 : decode cX0_settle 41 = .ok (.getfield 31, 3) := by decide +kernel
theorem dX0_settle_44 : decode cX0_settle 44 = .ok (.iload_n 3, 1) := by decide +kernel
theorem dX0_settle_45 : decode cX0_settle 45 = .ok (.dup2, 1) := by decide +kernel
theorem dX0_settle_46 : decode cX0_settle 46 = .ok (.iaload, 1) := by decide +kernel
theorem dX0_settle_47 : decode cX0_settle 47 = .ok (.iload 4, 2) := by decide +kernel
theorem dX0_settle_49 : decode cX0_settle 49 = .ok (.isub, 1) := by decide +kernel
theorem dX0_settle_50 : decode cX0_settle 50 = .ok (.iastore, 1) := by decide +kernel
theorem dX0_settle_51 : decode cX0_settle 51 = .ok (.aload_n 0, 1) := by decide +kernel
theorem dX0_settle_52 : decode cX0_settle 52 = .ok (.getfield 34, 3) := by decide +kernel
theorem dX0_settle_55 : decode cX0_settle 55 = .ok (.iload_n 3, 1) := by decide +kernel
theorem dX0_settle_56 : decode cX0_settle 56 = .ok (.dup2, 1) := by decide +kernel
theorem dX0_settle_57 : decode cX0_settle 57 = .ok (.iaload, 1) := by decide +kernel
theorem dX0_settle_58 : decode cX0_settle 58 = .ok (.iload 4, 2) := by decide +kernel
theorem dX0_settle_60 : decode cX0_settle 60 = .ok (.iadd, 1) := by decide +kernel
theorem dX0_settle_61 : decode cX0_settle 61 = .ok (.iastore, 1) := by decide +kernel
theorem dX0_settle_62 : decode cX0_settle 62 = .ok (.iinc 2 1, 3) := by decide +kernel
theorem dX0_settle_65 : decode cX0_settle 65 = .ok (.goto (-53), 3) := by decide +kernel
theorem dX0_settle_68 : decode cX0_settle 68 = .ok (.iinc 1 1, 3) := by decide +kernel
theorem dX0_settle_71 : decode cX0_settle 71 = .ok (.goto (-69), 3) := by decide +kernel
theorem dX0_settle_74 : decode cX0_settle 74 = .ok (.return_, 1) := by decide +kernel
theorem dX0_nearest_0 : decode cX0_nearest 0 = .ok (.iconst 0, 1) := by decide +kernel
theorem dX0_nearest_1 : decode cX0_nearest 1 = .ok (.istore_n 2, 1) := by decide +kernel
theorem dX0_nearest_2 : decode cX0_nearest 2 = .ok (.bipush (-9), 2) := by decide +kernel
theorem dX0_nearest_4 : decode cX0_nearest 4 = .ok (.istore_n 3, 1) := by decide +kernel
theorem dX0_nearest_5 : decode cX0_nearest 5 = .ok (.iconst 0, 1) := by decide +kernel
theorem dX0_nearest_6 : decode cX0_nearest 6 = .ok (.istore 4, 2) := by decide +kernel
theorem dX0_nearest_8 : decode cX0_nearest 8 = .ok (.iload 4, 2) := by decide +kernel
theorem dX0_nearest_10 : decode cX0_nearest 10 = .ok (.aload_n 0, 1) := by decide +kernel
theorem dX0_nearest_11 : decode cX0_nearest 11 = .ok (.getfield 9, 3) := by decide +kernel
theorem dX0_nearest_14 : decode cX0_nearest 14 = .ok (.if_icmp .ge 35, 3) := by decide +kernel
theorem dX0_nearest_17 : decode cX0_nearest 17 = .ok (.iload 4, 2) := by decide +kernel
theorem dX0_nearest_19 : decode cX0_nearest 19 = .ok (.iload_n 1, 1) := by decide +kernel
theorem dX0_nearest_20 : decode cX0_nearest 20 = .ok (.if_icmp .eq 23, 3) := by decide +kernel
theorem dX0_nearest_23 : decode cX0_nearest 23 = .ok (.aload_n 0, 1) := by decide +kernel
theorem dX0_nearest_24 : decode cX0_nearest 24 = .ok (.iload 4, 2) := by decide +kernel
theorem dX0_nearest_26 : decode cX0_nearest 26 = .ok (.invokevirtual 51, 3) := by decide +kernel
theorem dX0_nearest_29 : decode cX0_nearest 29 = .ok (.iload_n 2, 1) := by decide +kernel
theorem dX0_nearest_30 : decode cX0_nearest 30 = .ok (.if_icmp .le 13, 3) := by decide +kernel
theorem dX0_nearest_33 : decode cX0_nearest 33 = .ok (.aload_n 0, 1) := by decide +kernel
theorem dX0_nearest_34 : decode cX0_nearest 34 = .ok (.iload 4, 2) := by decide +kernel
theorem dX0_nearest_36 : decode cX0_nearest 36 = .ok (.invokevirtual 51, 3) := by decide +kernel
theorem dX0_nearest_39 : decode cX0_nearest 39 = .ok (.istore_n 2, 1) := by decide +kernel
theorem dX0_nearest_40 : decode cX0_nearest 40 = .ok (.iload 4, 2) := by decide +kernel
theorem dX0_nearest_42 : decode cX0_nearest 42 = .ok (.istore_n 3, 1) := by decide +kernel
theorem dX0_nearest_43 : decode cX0_nearest 43 = .ok (.iinc 4 1, 3) := by decide +kernel
theorem dX0_nearest_46 : decode cX0_nearest 46 = .ok (.goto (-38), 3) := by decide +kernel
theorem dX0_nearest_49 : decode cX0_nearest 49 = .ok (.iload_n 3, 1) := by decide +kernel
theorem dX0_nearest_50 : decode cX0_nearest 50 = .ok (.ireturn, 1) := by decide +kernel
theorem dX0_fullest_0 : decode cX0_fullest 0 = .ok (.iconst (-1), 1) := by decide +kernel
theorem dX0_fullest_1 : decode cX0_fullest 1 = .ok (.istore_n 2, 1) := by decide +kernel
theorem dX0_fullest_2 : decode cX0_fullest 2 = .ok (.bipush (-9), 2) := by decide +kernel
theorem dX0_fullest_4 : decode cX0_fullest 4 = .ok (.istore_n 3, 1) := by decide +kernel
theorem dX0_fullest_5 : decode cX0_fullest 5 = .ok (.iconst 0, 1) := by decide +kernel
theorem dX0_fullest_6 : decode cX0_fullest 6 = .ok (.istore 4, 2) := by decide +kernel
theorem dX0_fullest_8 : decode cX0_fullest 8 = .ok (.iload 4, 2) := by decide +kernel
theorem dX0_fullest_10 : decode cX0_fullest 10 = .ok (.aload_n 0, 1) := by decide +kernel
theorem dX0_fullest_11 : decode cX0_fullest 11 = .ok (.getfield 9, 3) := by decide +kernel
theorem dX0_fullest_14 : decode cX0_fullest 14 = .ok (.if_icmp .ge 46, 3) := by decide +kernel
theorem dX0_fullest_17 : decode cX0_fullest 17 = .ok (.iload 4, 2) := by decide +kernel
theorem dX0_fullest_19 : decode cX0_fullest 19 = .ok (.iload_n 1, 1) := by decide +kernel
theorem dX0_fullest_20 : decode cX0_fullest 20 = .ok (.if_icmp .eq 34, 3) := by decide +kernel
theorem dX0_fullest_23 : decode cX0_fullest 23 = .ok (.aload_n 0, 1) := by decide +kernel
theorem dX0_fullest_24 : decode cX0_fullest 24 = .ok (.iload 4, 2) := by decide +kernel
theorem dX0_fullest_26 : decode cX0_fullest 26 = .ok (.invokevirtual 51, 3) := by decide +kernel
theorem dX0_fullest_29 : decode cX0_fullest 29 = .ok (.bipush (-2), 2) := by decide +kernel
theorem dX0_fullest_31 : decode cX0_fullest 31 = .ok (.if_icmp .le 23, 3) := by decide +kernel
theorem dX0_fullest_34 : decode cX0_fullest 34 = .ok (.aload_n 0, 1) := by decide +kernel
theorem dX0_fullest_35 : decode cX0_fullest 35 = .ok (.iload 4, 2) := by decide +kernel
theorem dX0_fullest_37 : decode cX0_fullest 37 = .ok (.invokevirtual 43, 3) := by decide +kernel
theorem dX0_fullest_40 : decode cX0_fullest 40 = .ok (.iload_n 2, 1) := by decide +kernel
theorem dX0_fullest_41 : decode cX0_fullest 41 = .ok (.if_icmp .le 13, 3) := by decide +kernel
theorem dX0_fullest_44 : decode cX0_fullest 44 = .ok (.aload_n 0, 1) := by decide +kernel
theorem dX0_fullest_45 : decode cX0_fullest 45 = .ok (.iload 4, 2) := by decide +kernel
theorem dX0_fullest_47 : decode cX0_fullest 47 = .ok (.invokevirtual 43, 3) := by decide +kernel
theorem dX0_fullest_50 : decode cX0_fullest 50 = .ok (.istore_n 2, 1) := by decide +kernel
theorem dX0_fullest_51 : decode cX0_fullest 51 = .ok (.iload 4, 2) := by decide +kernel
theorem dX0_fullest_53 : decode cX0_fullest 53 = .ok (.istore_n 3, 1) := by decide +kernel
theorem dX0_fullest_54 : decode cX0_fullest 54 = .ok (.iinc 4 1, 3) := by decide +kernel
theorem dX0_fullest_57 : decode cX0_fullest 57 = .ok (.goto (-49), 3) := by decide +kernel
theorem dX0_fullest_60 : decode cX0_fullest 60 = .ok (.iload_n 3, 1) := by decide +kernel
theorem dX0_fullest_61 : decode cX0_fullest 61 = .ok (.ireturn, 1) := by decide +kernel
theorem dX1_init_0 : decode cX1_init 0 = .ok (.aload_n 0, 1) := by decide +kernel
theorem dX1_init_1 : decode cX1_init 1 = .ok (.invokespecial 3, 3) := by decide +kernel
theorem dX1_init_4 : decode cX1_init 4 = .ok (.aload_n 0, 1) := by decide +kernel
theorem dX1_init_5 : decode cX1_init 5 = .ok (.iconst 0, 1) := by decide +kernel
theorem dX1_init_6 : decode cX1_init 6 = .ok (.putfield 9, 3) := by decide +kernel
theorem dX1_init_9 : decode cX1_init 9 = .ok (.aload_n 0, 1) := by decide +kernel
theorem dX1_init_10 : decode cX1_init 10 = .ok (.bipush 96, 2) := by decide +kernel
theorem dX1_init_12 : decode cX1_init 12 = .ok (.newarray .int, 2) := by decide +kernel
theorem dX1_init_14 : decode cX1_init 14 = .ok (.putfield 15, 3) := by decide +kernel
theorem dX1_init_17 : decode cX1_init 17 = .ok (.aload_n 0, 1) := by decide +kernel
theorem dX1_init_18 : decode cX1_init 18 = .ok (.iconst 0, 1) := by decide +kernel
theorem dX1_init_19 : decode cX1_init 19 = .ok (.putfield 19, 3) := by decide +kernel
theorem dX1_init_22 : decode cX1_init 22 = .ok (.aload_n 0, 1) := by decide +kernel
theorem dX1_init_23 : decode cX1_init 23 = .ok (.iconst 0, 1) := by decide +kernel
theorem dX1_init_24 : decode cX1_init 24 = .ok (.putfield 22, 3) := by decide +kernel
theorem dX1_init_27 : decode cX1_init 27 = .ok (.aload_n 0, 1) := by decide +kernel
theorem dX1_init_28 : decode cX1_init 28 = .ok (.iconst 0, 1) := by decide +kernel
theorem dX1_init_29 : decode cX1_init 29 = .ok (.putfield 25, 3) := by decide +kernel
theorem dX1_init_32 : decode cX1_init 32 = .ok (.aload_n 0, 1) := by decide +kernel
theorem dX1_init_33 : decode cX1_init 33 = .ok (.iconst 0, 1) := by decide +kernel
theorem dX1_init_34 : decode cX1_init 34 = .ok (.putfield 28, 3) := by decide +kernel
theorem dX1_init_37 : decode cX1_init 37 = .ok (.aload_n 0, 1) := by decide +kernel
theorem dX1_init_38 : decode cX1_init 38 = .ok (.iconst 0, 1) := by decide +kernel
theorem dX1_init_39 : decode cX1_init 39 = .ok (.putfield 31, 3) := by decide +kernel
theorem dX1_init_42 : decode cX1_init 42 = .ok (.aload_n 0, 1) := by decide +kernel
theorem dX1_init_43 : decode cX1_init 43 = .ok (.iconst 0, 1) := by decide +kernel
theorem dX1_init_44 : decode cX1_init 44 = .ok (.putfield 34, 3) := by decide +kernel
theorem dX1_init_47 : decode cX1_init 47 = .ok (.aload_n 0, 1) := by decide +kernel
theorem dX1_init_48 : decode cX1_init 48 = .ok (.iconst 0, 1) := by decide +kernel
theorem dX1_init_49 : decode cX1_init 49 = .ok (.putfield 37, 3) := by decide +kernel
theorem dX1_init_52 : decode cX1_init 52 = .ok (.aload_n 0, 1) := by decide +kernel
theorem dX1_init_53 : decode cX1_init 53 = .ok (.iconst 0, 1) := by decide +kernel
theorem dX1_init_54 : decode cX1_init 54 = .ok (.putfield 40, 3) := by decide +kernel
theorem dX1_init_57 : decode cX1_init 57 = .ok (.aload_n 0, 1) := by decide +kernel
theorem dX1_init_58 : decode cX1_init 58 = .ok (.iconst 0, 1) := by decide +kernel
theorem dX1_init_59 : decode cX1_init 59 = .ok (.putfield 43, 3) := by decide +kernel
theorem dX1_init_62 : decode cX1_init 62 = .ok (.aload_n 0, 1) := by decide +kernel
theorem dX1_init_63 : decode cX1_init 63 = .ok (.iconst 0, 1) := by decide +kernel
theorem dX1_init_64 : decode cX1_init 64 = .ok (.putfield 46, 3) := by decide +kernel
theorem dX1_init_67 : decode cX1_init 67 = .ok (.return_, 1) := by decide +kernel
theorem dX1_append_0 : decode cX1_append 0 = .ok (.aload_n 0, 1) := by decide +kernel
theorem dX1_append_1 : decode cX1_append 1 = .ok (.getfield 9, 3) := by decide +kernel
theorem dX1_append_4 : decode cX1_append 4 = .ok (.ifCond .lt 32, 3) := by decide +kernel
theorem dX1_append_7 : decode cX1_append 7 = .ok (.aload_n 0, 1) := by decide +kernel
theorem dX1_append_8 : decode cX1_append 8 = .ok (.getfield 9, 3) := by decide +kernel
theorem dX1_append_11 : decode cX1_append 11 = .ok (.bipush 96, 2) := by decide +kernel
theorem dX1_append_13 : decode cX1_append 13 = .ok (.if_icmp .ge 23, 3) := by decide +kernel
theorem dX1_append_16 : decode cX1_append 16 = .ok (.aload_n 0, 1) := by decide +kernel
theorem dX1_append_17 : decode cX1_append 17 = .ok (.getfield 15, 3) := by decide +kernel
theorem dX1_append_20 : decode cX1_append 20 = .ok (.aload_n 0, 1) := by decide +kernel
theorem dX1_append_21 : decode cX1_append 21 = .ok (.getfield 9, 3) := by decide +kernel
theorem dX1_append_24 : decode cX1_append 24 = .ok (.iload_n 1, 1) := by decide +kernel
theorem dX1_append_25 : decode cX1_append 25 = .ok (.iastore, 1) := by decide +kernel
theorem dX1_append_26 : decode cX1_append 26 = .ok (.aload_n 0, 1) := by decide +kernel
theorem dX1_append_27 : decode cX1_append 27 = .ok (.dup, 1) := by decide +kernel
theorem dX1_append_28 : decode cX1_append 28 = .ok (.getfield 9, 3) := by decide +kernel
theorem dX1_append_31 : decode cX1_append 31 = .ok (.iconst 1, 1) := by decide +kernel
theorem dX1_append_32 : decode cX1_append 32 = .ok (.iadd, 1) := by decide +kernel
theorem dX1_append_33 : decode cX1_append 33 = .ok (.putfield 9, 3) := by decide +kernel
theorem dX1_append_36 : decode cX1_append 36 = .ok (.return_, 1) := by decide +kernel
theorem dX1_readInto_0 : decode cX1_readInto 0 = .ok (.iconst 0, 1) := by decide +kernel
theorem dX1_readInto_1 : decode cX1_readInto 1 = .ok (.istore_n 2, 1) := by decide +kernel
theorem dX1_readInto_2 : decode cX1_readInto 2 = .ok (.aload_n 0, 1) := by decide +kernel
theorem dX1_readInto_3 : decode cX1_readInto 3 = .ok (.iconst 0, 1) := by decide +kernel
theorem dX1_readInto_4 : decode cX1_readInto 4 = .ok (.putfield 19, 3) := by decide +kernel
theorem dX1_readInto_7 : decode cX1_readInto 7 = .ok (.aload_n 0, 1) := by decide +kernel
theorem dX1_readInto_8 : decode cX1_readInto 8 = .ok (.invokevirtual 49, 3) := by decide +kernel
theorem dX1_readInto_11 : decode cX1_readInto 11 = .ok (.ifCond .ne 12, 3) := by decide +kernel
theorem dX1_readInto_14 : decode cX1_readInto 14 = .ok (.sipush (-1000), 3) := by decide +kernel
theorem dX1_readInto_17 : decode cX1_readInto 17 = .ok (.aload_n 0, 1) := by decide +kernel
theorem dX1_readInto_18 : decode cX1_readInto 18 = .ok (.getfield 19, 3) := by decide +kernel
theorem dX1_readInto_21 : decode cX1_readInto 21 = .ok (.isub, 1) := by decide +kernel
theorem dX1_readInto_22 : decode cX1_readInto 22 = .ok (.ireturn, 1) := by decide +kernel
theorem dX1_readInto_23 : decode cX1_readInto 23 = .ok (.iinc 2 1, 3) := by decide +kernel
theorem dX1_readInto_26 : decode cX1_readInto 26 = .ok (.aload_n 0, 1) := by decide +kernel
theorem dX1_readInto_27 : decode cX1_readInto 27 = .ok (.getfield 19, 3) := by decide +kernel
theorem dX1_readInto_30 : decode cX1_readInto 30 = .ok (.aload_n 0, 1) := by decide +kernel
theorem dX1_readInto_31 : decode cX1_readInto 31 = .ok (.getfield 9, 3) := by decide +kernel
theorem dX1_readInto_34 : decode cX1_readInto 34 = .ok (.if_icmp .ge 9, 3) := by decide +kernel
theorem dX1_readInto_37 : decode cX1_readInto 37 = .ok (.iload_n 2, 1) := by decide +kernel
theorem dX1_readInto_38 : decode cX1_readInto 38 = .ok (.bipush 96, 2) := by decide +kernel
theorem dX1_readInto_40 : decode cX1_readInto 40 = .ok (.if_icmp .lt (-33), 3) := by decide +kernel
theorem dX1_readInto_43 : decode cX1_readInto 43 = .ok (.aload_n 0, 1) := by decide +kernel
theorem dX1_readInto_44 : decode cX1_readInto 44 = .ok (.iconst 0, 1) := by decide +kernel
theorem dX1_readInto_45 : decode cX1_readInto 45 = .ok (.putfield 19, 3) := by decide +kernel
theorem dX1_readInto_48 : decode cX1_readInto 48 = .ok (.iconst 0, 1) := by decide +kernel
theorem dX1_readInto_49 : decode cX1_readInto 49 = .ok (.istore_n 3, 1) := by decide +kernel
theorem dX1_readInto_50 : decode cX1_readInto 50 = .ok (.iload_n 3, 1) := by decide +kernel
theorem dX1_readInto_51 : decode cX1_readInto 51 = .ok (.iload_n 2, 1) := by decide +kernel
theorem dX1_readInto_52 : decode cX1_readInto 52 = .ok (.if_icmp .ge 37, 3) := by decide +kernel
theorem dX1_readInto_55 : decode cX1_readInto 55 = .ok (.aload_n 0, 1) := by decide +kernel
theorem dX1_readInto_56 : decode cX1_readInto 56 = .ok (.getfield 19, 3) := by decide +kernel
theorem dX1_readInto_59 : decode cX1_readInto 59 = .ok (.istore 4, 2) := by decide +kernel
theorem dX1_readInto_61 : decode cX1_readInto 61 = .ok (.aload_n 0, 1) := by decide +kernel
theorem dX1_readInto_62 : decode cX1_readInto 62 = .ok (.invokevirtual 49, 3) := by decide +kernel
theorem dX1_readInto_65 : decode cX1_readInto 65 = .ok (.ifCond .eq 11, 3) := by decide +kernel
theorem dX1_readInto_68 : decode cX1_readInto 68 = .ok (.aload_n 0, 1) := by decide +kernel
theorem dX1_readInto_69 : decode cX1_readInto 69 = .ok (.aload_n 1, 1) := by decide +kernel
theorem dX1_readInto_70 : decode cX1_readInto 70 = .ok (.invokevirtual 53, 3) := by decide +kernel
theorem dX1_readInto_73 : decode cX1_readInto 73 = .ok (.ifCond .ne 10, 3) := by decide +kernel
theorem dX1_readInto_76 : decode cX1_readInto 76 = .ok (.sipush (-2000), 3) := by decide +kernel
theorem dX1_readInto_79 : decode cX1_readInto 79 = .ok (.iload 4, 2) := by decide +kernel
theorem dX1_readInto_81 : decode cX1_readInto 81 = .ok (.isub, 1) := by decide +kernel
theorem dX1_readInto_82 : decode cX1_readInto 82 = .ok (.ireturn, 1) := by decide +kernel
theorem dX1_readInto_83 : decode cX1_readInto 83 = .ok (.iinc 3 1, 3) := by decide +kernel
theorem dX1_readInto_86 : decode cX1_readInto 86 = .ok (.goto (-36), 3) := by decide +kernel
theorem dX1_readInto_89 : decode cX1_readInto 89 = .ok (.iload_n 2, 1) := by decide +kernel
theorem dX1_readInto_90 : decode cX1_readInto 90 = .ok (.ireturn, 1) := by decide +kernel
theorem dX1_giveTo_0 : decode cX1_giveTo 0 = .ok (.aload_n 0, 1) := by decide +kernel
theorem dX1_giveTo_1 : decode cX1_giveTo 1 = .ok (.getfield 22, 3) := by decide +kernel
theorem dX1_giveTo_4 : decode cX1_giveTo 4 = .ok (.lookupswitch 118 #[(99, 36), (114, 93), (119, 60)], 36) := by decide +kernel
theorem dX1_giveTo_40 : decode cX1_giveTo 40 = .ok (.aload_n 1, 1) := by decide +kernel
theorem dX1_giveTo_41 : decode cX1_giveTo 41 = .ok (.getfield 57, 3) := by decide +kernel
theorem dX1_giveTo_44 : decode cX1_giveTo 44 = .ok (.aload_n 0, 1) := by decide +kernel
theorem dX1_giveTo_45 : decode cX1_giveTo 45 = .ok (.getfield 40, 3) := by decide +kernel
theorem dX1_giveTo_48 : decode cX1_giveTo 48 = .ok (.aload_n 0, 1) := by decide +kernel
theorem dX1_giveTo_49 : decode cX1_giveTo 49 = .ok (.getfield 37, 3) := by decide +kernel
theorem dX1_giveTo_52 : decode cX1_giveTo 52 = .ok (.invokevirtual 63, 3) := by decide +kernel
theorem dX1_giveTo_55 : decode cX1_giveTo 55 = .ok (.ifCond .lt 7, 3) := by decide +kernel
theorem dX1_giveTo_58 : decode cX1_giveTo 58 = .ok (.iconst 1, 1) := by decide +kernel
theorem dX1_giveTo_59 : decode cX1_giveTo 59 = .ok (.goto 4, 3) := by decide +kernel
theorem dX1_giveTo_62 : decode cX1_giveTo 62 = .ok (.iconst 0, 1) := by decide +kernel
theorem dX1_giveTo_63 : decode cX1_giveTo 63 = .ok (.ireturn, 1) := by decide +kernel
theorem dX1_giveTo_64 : decode cX1_giveTo 64 = .ok (.aload_n 1, 1) := by decide +kernel
theorem dX1_giveTo_65 : decode cX1_giveTo 65 = .ok (.aload_n 0, 1) := by decide +kernel
theorem dX1_giveTo_66 : decode cX1_giveTo 66 = .ok (.getfield 28, 3) := by decide +kernel
theorem dX1_giveTo_69 : decode cX1_giveTo 69 = .ok (.aload_n 0, 1) := by decide +kernel
theorem dX1_giveTo_70 : decode cX1_giveTo 70 = .ok (.getfield 25, 3) := by decide +kernel
theorem dX1_giveTo_73 : decode cX1_giveTo 73 = .ok (.aload_n 0, 1) := by decide +kernel
theorem dX1_giveTo_74 : decode cX1_giveTo 74 = .ok (.getfield 31, 3) := by decide +kernel
theorem dX1_giveTo_77 : decode cX1_giveTo 77 = .ok (.aload_n 0, 1) := by decide +kernel
theorem dX1_giveTo_78 : decode cX1_giveTo 78 = .ok (.getfield 34, 3) := by decide +kernel
theorem dX1_giveTo_81 : decode cX1_giveTo 81 = .ok (.aload_n 0, 1) := by decide +kernel
theorem dX1_giveTo_82 : decode cX1_giveTo 82 = .ok (.getfield 37, 3) := by decide +kernel
theorem dX1_giveTo_85 : decode cX1_giveTo 85 = .ok (.invokevirtual 69, 3) := by decide +kernel
theorem dX1_giveTo_88 : decode cX1_giveTo 88 = .ok (.ifCond .lt 7, 3) := by decide +kernel
theorem dX1_giveTo_91 : decode cX1_giveTo 91 = .ok (.iconst 1, 1) := by decide +kernel
theorem dX1_giveTo_92 : decode cX1_giveTo 92 = .ok (.goto 4, 3) := by decide +kernel
theorem dX1_giveTo_95 : decode cX1_giveTo 95 = .ok (.iconst 0, 1) := by decide +kernel
theorem dX1_giveTo_96 : decode cX1_giveTo 96 = .ok (.ireturn, 1) := by decide +kernel
theorem dX1_giveTo_97 : decode cX1_giveTo 97 = .ok (.aload_n 1, 1) := by decide +kernel
theorem dX1_giveTo_98 : decode cX1_giveTo 98 = .ok (.aload_n 0, 1) := by decide +kernel
theorem dX1_giveTo_99 : decode cX1_giveTo 99 = .ok (.getfield 25, 3) := by decide +kernel
theorem dX1_giveTo_102 : decode cX1_giveTo 102 = .ok (.aload_n 0, 1) := by decide +kernel
theorem dX1_giveTo_103 : decode cX1_giveTo 103 = .ok (.getfield 34, 3) := by decide +kernel
theorem dX1_giveTo_106 : decode cX1_giveTo 106 = .ok (.aload_n 0, 1) := by decide +kernel
theorem dX1_giveTo_107 : decode cX1_giveTo 107 = .ok (.getfield 37, 3) := by decide +kernel
theorem dX1_giveTo_110 : decode cX1_giveTo 110 = .ok (.invokevirtual 73, 3) := by decide +kernel
theorem dX1_giveTo_113 : decode cX1_giveTo 113 = .ok (.ifCond .lt 7, 3) := by decide +kernel
theorem dX1_giveTo_116 : decode cX1_giveTo 116 = .ok (.iconst 1, 1) := by decide +kernel
theorem dX1_giveTo_117 : decode cX1_giveTo 117 = .ok (.goto 4, 3) := by decide +kernel
theorem dX1_giveTo_120 : decode cX1_giveTo 120 = .ok (.iconst 0, 1) := by decide +kernel
theorem dX1_giveTo_121 : decode cX1_giveTo 121 = .ok (.ireturn, 1) := by decide +kernel
theorem dX1_giveTo_122 : decode cX1_giveTo 122 = .ok (.aload_n 1, 1) := by decide +kernel
theorem dX1_giveTo_123 : decode cX1_giveTo 123 = .ok (.aload_n 0, 1) := by decide +kernel
theorem dX1_giveTo_124 : decode cX1_giveTo 124 = .ok (.getfield 43, 3) := by decide +kernel
theorem dX1_giveTo_127 : decode cX1_giveTo 127 = .ok (.aload_n 0, 1) := by decide +kernel
theorem dX1_giveTo_128 : decode cX1_giveTo 128 = .ok (.getfield 46, 3) := by decide +kernel
theorem dX1_giveTo_131 : decode cX1_giveTo 131 = .ok (.invokevirtual 77, 3) := by decide +kernel
theorem dX1_giveTo_134 : decode cX1_giveTo 134 = .ok (.iconst 1, 1) := by decide +kernel
theorem dX1_giveTo_135 : decode cX1_giveTo 135 = .ok (.ireturn, 1) := by decide +kernel
theorem dX1_readStatement_0 : decode cX1_readStatement 0 = .ok (.aload_n 0, 1) := by decide +kernel
theorem dX1_readStatement_1 : decode cX1_readStatement 1 = .ok (.aload_n 0, 1) := by decide +kernel
theorem dX1_readStatement_2 : decode cX1_readStatement 2 = .ok (.invokevirtual 81, 3) := by decide +kernel
theorem dX1_readStatement_5 : decode cX1_readStatement 5 = .ok (.putfield 22, 3) := by decide +kernel
theorem dX1_readStatement_8 : decode cX1_readStatement 8 = .ok (.aload_n 0, 1) := by decide +kernel
theorem dX1_readStatement_9 : decode cX1_readStatement 9 = .ok (.getfield 22, 3) := by decide +kernel
theorem dX1_readStatement_12 : decode cX1_readStatement 12 = .ok (.lookupswitch 230 #[(99, 44), (109, 198), (114, 152), (119, 92)], 44) := by decide +kernel
theorem dX1_readStatement_56 : decode cX1_readStatement 56 = .ok (.aload_n 0, 1) := by decide +kernel
theorem dX1_readStatement_57 : decode cX1_readStatement 57 = .ok (.dup, 1) := by decide +kernel
theorem dX1_readStatement_58 : decode cX1_readStatement 58 = .ok (.getfield 19, 3) := by decide +kernel
theorem dX1_readStatement_61 : decode cX1_readStatement 61 = .ok (.iconst 1, 1) := by decide +kernel
theorem dX1_readStatement_62 : decode cX1_readStatement 62 = .ok (.iadd, 1) := by decide +kernel
theorem dX1_readStatement_63 : decode cX1_readStatement 63 = .ok (.putfield 19, 3) := by decide +kernel
theorem dX1_readStatement_66 : decode cX1_readStatement 66 = .ok (.aload_n 0, 1) := by decide +kernel
theorem dX1_readStatement_67 : decode cX1_readStatement 67 = .ok (.invokevirtual 85, 3) := by decide +kernel
theorem dX1_readStatement_70 : decode cX1_readStatement 70 = .ok (.ifCond .eq 32, 3) := by decide +kernel
theorem dX1_readStatement_73 : decode cX1_readStatement 73 = .ok (.aload_n 0, 1) := by decide +kernel
theorem dX1_readStatement_74 : decode cX1_readStatement 74 = .ok (.bipush 44, 2) := by decide +kernel
theorem dX1_readStatement_76 : decode cX1_readStatement 76 = .ok (.invokevirtual 88, 3) := by decide +kernel
theorem dX1_readStatement_79 : decode cX1_readStatement 79 = .ok (.ifCond .eq 23, 3) := by decide +kernel
theorem dX1_readStatement_82 : decode cX1_readStatement 82 = .ok (.aload_n 0, 1) := by decide +kernel
theorem dX1_readStatement_83 : decode cX1_readStatement 83 = .ok (.invokevirtual 85, 3) := by decide +kernel
theorem dX1_readStatement_86 : decode cX1_readStatement 86 = .ok (.ifCond .eq 16, 3) := by decide +kernel
theorem dX1_readStatement_89 : decode cX1_readStatement 89 = .ok (.aload_n 0, 1) := by decide +kernel
theorem dX1_readStatement_90 : decode cX1_readStatement 90 = .ok (.bipush 59, 2) := by decide +kernel
theorem dX1_readStatement_92 : decode cX1_readStatement 92 = .ok (.invokevirtual 88, 3) := by decide +kernel
theorem dX1_readStatement_95 : decode cX1_readStatement 95 = .ok (.ifCond .eq 7, 3) := by decide +kernel
theorem dX1_readStatement_98 : decode cX1_readStatement 98 = .ok (.iconst 1, 1) := by decide +kernel
theorem dX1_readStatement_99 : decode cX1_readStatement 99 = .ok (.goto 4, 3) := by decide +kernel
theorem dX1_readStatement_102 : decode cX1_readStatement 102 = .ok (.iconst 0, 1) := by decide +kernel
theorem dX1_readStatement_103 : decode cX1_readStatement 103 = .ok (.ireturn, 1) := by decide +kernel
theorem dX1_readStatement_104 : decode cX1_readStatement 104 = .ok (.aload_n 0, 1) := by decide +kernel
theorem dX1_readStatement_105 : decode cX1_readStatement 105 = .ok (.dup, 1) := by decide +kernel
theorem dX1_readStatement_106 : decode cX1_readStatement 106 = .ok (.getfield 19, 3) := by decide +kernel
theorem dX1_readStatement_109 : decode cX1_readStatement 109 = .ok (.iconst 1, 1) := by decide +kernel
theorem dX1_readStatement_110 : decode cX1_readStatement 110 = .ok (.iadd, 1) := by decide +kernel
theorem dX1_readStatement_111 : decode cX1_readStatement 111 = .ok (.putfield 19, 3) := by decide +kernel
theorem dX1_readStatement_114 : decode cX1_readStatement 114 = .ok (.aload_n 0, 1) := by decide +kernel
theorem dX1_readStatement_115 : decode cX1_readStatement 115 = .ok (.invokevirtual 92, 3) := by decide +kernel
theorem dX1_readStatement_118 : decode cX1_readStatement 118 = .ok (.ifCond .eq 44, 3) := by decide +kernel
theorem dX1_readStatement_121 : decode cX1_readStatement 121 = .ok (.aload_n 0, 1) := by decide +kernel
theorem dX1_readStatement_122 : decode cX1_readStatement 122 = .ok (.invokevirtual 92, 3) := by decide +kernel
theorem dX1_readStatement_125 : decode cX1_readStatement 125 = .ok (.ifCond .eq 37, 3) := by decide +kernel
theorem dX1_readStatement_128 : decode cX1_readStatement 128 = .ok (.aload_n 0, 1) := by decide +kernel
theorem dX1_readStatement_129 : decode cX1_readStatement 129 = .ok (.invokevirtual 95, 3) := by decide +kernel
theorem dX1_readStatement_132 : decode cX1_readStatement 132 = .ok (.ifCond .eq 30, 3) := by decide +kernel
theorem dX1_readStatement_135 : decode cX1_readStatement 135 = .ok (.aload_n 0, 1) := by decide +kernel
theorem dX1_readStatement_136 : decode cX1_readStatement 136 = .ok (.invokevirtual 98, 3) := by decide +kernel
theorem dX1_readStatement_139 : decode cX1_readStatement 139 = .ok (.ifCond .eq 23, 3) := by decide +kernel
theorem dX1_readStatement_142 : decode cX1_readStatement 142 = .ok (.aload_n 0, 1) := by decide +kernel
theorem dX1_readStatement_143 : decode cX1_readStatement 143 = .ok (.invokevirtual 85, 3) := by decide +kernel
theorem dX1_readStatement_146 : decode cX1_readStatement 146 = .ok (.ifCond .eq 16, 3) := by decide +kernel
theorem dX1_readStatement_149 : decode cX1_readStatement 149 = .ok (.aload_n 0, 1) := by decide +kernel
theorem dX1_readStatement_150 : decode cX1_readStatement 150 = .ok (.bipush 59, 2) := by decide +kernel
theorem dX1_readStatement_152 : decode cX1_readStatement 152 = .ok (.invokevirtual 88, 3) := by decide +kernel
theorem dX1_readStatement_155 : decode cX1_readStatement 155 = .ok (.ifCond .eq 7, 3) := by decide +kernel
theorem dX1_readStatement_158 : decode cX1_readStatement 158 = .ok (.iconst 1, 1) := by decide +kernel
theorem dX1_readStatement_159 : decode cX1_readStatement 159 = .ok (.goto 4, 3) := by decide +kernel
theorem dX1_readStatement_162 : decode cX1_readStatement 162 = .ok (.iconst 0, 1) := by decide +kernel
theorem dX1_readStatement_163 : decode cX1_readStatement 163 = .ok (.ireturn, 1) := by decide +kernel
theorem dX1_readStatement_164 : decode cX1_readStatement 164 = .ok (.aload_n 0, 1) := by decide +kernel
theorem dX1_readStatement_165 : decode cX1_readStatement 165 = .ok (.dup, 1) := by decide +kernel
theorem dX1_readStatement_166 : decode cX1_readStatement 166 = .ok (.getfield 19, 3) := by decide +kernel
theorem dX1_readStatement_169 : decode cX1_readStatement 169 = .ok (.iconst 1, 1) := by decide +kernel
theorem dX1_readStatement_170 : decode cX1_readStatement 170 = .ok (.iadd, 1) := by decide +kernel
theorem dX1_readStatement_171 : decode cX1_readStatement 171 = .ok (.putfield 19, 3) := by decide +kernel
theorem dX1_readStatement_174 : decode cX1_readStatement 174 = .ok (.aload_n 0, 1) := by decide +kernel
theorem dX1_readStatement_175 : decode cX1_readStatement 175 = .ok (.invokevirtual 92, 3) := by decide +kernel
theorem dX1_readStatement_178 : decode cX1_readStatement 178 = .ok (.ifCond .eq 30, 3) := by decide +kernel
theorem dX1_readStatement_181 : decode cX1_readStatement 181 = .ok (.aload_n 0, 1) := by decide +kernel
theorem dX1_readStatement_182 : decode cX1_readStatement 182 = .ok (.invokevirtual 98, 3) := by decide +kernel
theorem dX1_readStatement_185 : decode cX1_readStatement 185 = .ok (.ifCond .eq 23, 3) := by decide +kernel
theorem dX1_readStatement_188 : decode cX1_readStatement 188 = .ok (.aload_n 0, 1) := by decide +kernel
theorem dX1_readStatement_189 : decode cX1_readStatement 189 = .ok (.invokevirtual 85, 3) := by decide +kernel
theorem dX1_readStatement_192 : decode cX1_readStatement 192 = .ok (.ifCond .eq 16, 3) := by decide +kernel
theorem dX1_readStatement_195 : decode cX1_readStatement 195 = .ok (.aload_n 0, 1) := by decide +kernel
theorem dX1_readStatement_196 : decode cX1_readStatement 196 = .ok (.bipush 59, 2) := by decide +kernel
theorem dX1_readStatement_198 : decode cX1_readStatement 198 = .ok (.invokevirtual 88, 3) := by decide +kernel
theorem dX1_readStatement_201 : decode cX1_readStatement 201 = .ok (.ifCond .eq 7, 3) := by decide +kernel
theorem dX1_readStatement_204 : decode cX1_readStatement 204 = .ok (.iconst 1, 1) := by decide +kernel
theorem dX1_readStatement_205 : decode cX1_readStatement 205 = .ok (.goto 4, 3) := by decide +kernel
theorem dX1_readStatement_208 : decode cX1_readStatement 208 = .ok (.iconst 0, 1) := by decide +kernel
theorem dX1_readStatement_209 : decode cX1_readStatement 209 = .ok (.ireturn, 1) := by decide +kernel
theorem dX1_readStatement_210 : decode cX1_readStatement 210 = .ok (.aload_n 0, 1) := by decide +kernel
theorem dX1_readStatement_211 : decode cX1_readStatement 211 = .ok (.dup, 1) := by decide +kernel
theorem dX1_readStatement_212 : decode cX1_readStatement 212 = .ok (.getfield 19, 3) := by decide +kernel
theorem dX1_readStatement_215 : decode cX1_readStatement 215 = .ok (.iconst 1, 1) := by decide +kernel
theorem dX1_readStatement_216 : decode cX1_readStatement 216 = .ok (.iadd, 1) := by decide +kernel
theorem dX1_readStatement_217 : decode cX1_readStatement 217 = .ok (.putfield 19, 3) := by decide +kernel
theorem dX1_readStatement_220 : decode cX1_readStatement 220 = .ok (.aload_n 0, 1) := by decide +kernel
theorem dX1_readStatement_221 : decode cX1_readStatement 221 = .ok (.invokevirtual 101, 3) := by decide +kernel
theorem dX1_readStatement_224 : decode cX1_readStatement 224 = .ok (.ifCond .eq 16, 3) := by decide +kernel
theorem dX1_readStatement_227 : decode cX1_readStatement 227 = .ok (.aload_n 0, 1) := by decide +kernel
theorem dX1_readStatement_228 : decode cX1_readStatement 228 = .ok (.bipush 59, 2) := by decide +kernel
theorem dX1_readStatement_230 : decode cX1_readStatement 230 = .ok (.invokevirtual 88, 3) := by decide +kernel
theorem dX1_readStatement_233 : decode cX1_readStatement 233 = .ok (.ifCond .eq 7, 3) := by decide +kernel
theorem dX1_readStatement_236 : decode cX1_readStatement 236 = .ok (.iconst 1, 1) := by decide +kernel
theorem dX1_readStatement_237 : decode cX1_readStatement 237 = .ok (.goto 4, 3) := by decide +kernel
theorem dX1_readStatement_240 : decode cX1_readStatement 240 = .ok (.iconst 0, 1) := by decide +kernel
theorem dX1_readStatement_241 : decode cX1_readStatement 241 = .ok (.ireturn, 1) := by decide +kernel
theorem dX1_readStatement_242 : decode cX1_readStatement 242 = .ok (.iconst 0, 1) := by decide +kernel
theorem dX1_readStatement_243 : decode cX1_readStatement 243 = .ok (.ireturn, 1) := by decide +kernel
theorem dX1_byteHere_0 : decode cX1_byteHere 0 = .ok (.aload_n 0, 1) := by decide +kernel
theorem dX1_byteHere_1 : decode cX1_byteHere 1 = .ok (.getfield 19, 3) := by decide +kernel
theorem dX1_byteHere_4 : decode cX1_byteHere 4 = .ok (.ifCond .lt 35, 3) := by decide +kernel
theorem dX1_byteHere_7 : decode cX1_byteHere 7 = .ok (.aload_n 0, 1) := by decide +kernel
theorem dX1_byteHere_8 : decode cX1_byteHere 8 = .ok (.getfield 19, 3) := by decide +kernel
theorem dX1_byteHere_11 : decode cX1_byteHere 11 = .ok (.aload_n 0, 1) := by decide +kernel
theorem dX1_byteHere_12 : decode cX1_byteHere 12 = .ok (.getfield 9, 3) := by decide +kernel
theorem dX1_byteHere_15 : decode cX1_byteHere 15 = .ok (.if_icmp .ge 24, 3) := by decide +kernel
theorem dX1_byteHere_18 : decode cX1_byteHere 18 = .ok (.aload_n 0, 1) := by decide +kernel
theorem dX1_byteHere_19 : decode cX1_byteHere 19 = .ok (.getfield 19, 3) := by decide +kernel
theorem dX1_byteHere_22 : decode cX1_byteHere 22 = .ok (.bipush 96, 2) := by decide +kernel
theorem dX1_byteHere_24 : decode cX1_byteHere 24 = .ok (.if_icmp .ge 15, 3) := by decide +kernel
theorem dX1_byteHere_27 : decode cX1_byteHere 27 = .ok (.aload_n 0, 1) := by decide +kernel
theorem dX1_byteHere_28 : decode cX1_byteHere 28 = .ok (.getfield 15, 3) := by decide +kernel
theorem dX1_byteHere_31 : decode cX1_byteHere 31 = .ok (.aload_n 0, 1) := by decide +kernel
theorem dX1_byteHere_32 : decode cX1_byteHere 32 = .ok (.getfield 19, 3) := by decide +kernel
theorem dX1_byteHere_35 : decode cX1_byteHere 35 = .ok (.iaload, 1) := by decide +kernel
theorem dX1_byteHere_36 : decode cX1_byteHere 36 = .ok (.goto 5, 3) := by decide +kernel
theorem dX1_byteHere_39 : decode cX1_byteHere 39 = .ok (.bipush (-9), 2) := by decide +kernel
theorem dX1_byteHere_41 : decode cX1_byteHere 41 = .ok (.ireturn, 1) := by decide +kernel
theorem dX1_digitIsHere_0 : decode cX1_digitIsHere 0 = .ok (.aload_n 0, 1) := by decide +kernel
theorem dX1_digitIsHere_1 : decode cX1_digitIsHere 1 = .ok (.invokevirtual 81, 3) := by decide +kernel
theorem dX1_digitIsHere_4 : decode cX1_digitIsHere 4 = .ok (.bipush 48, 2) := by decide +kernel
theorem dX1_digitIsHere_6 : decode cX1_digitIsHere 6 = .ok (.if_icmp .lt 16, 3) := by decide +kernel
theorem dX1_digitIsHere_9 : decode cX1_digitIsHere 9 = .ok (.aload_n 0, 1) := by decide +kernel
theorem dX1_digitIsHere_10 : decode cX1_digitIsHere 10 = .ok (.invokevirtual 81, 3) := by decide +kernel
theorem dX1_digitIsHere_13 : decode cX1_digitIsHere 13 = .ok (.bipush 57, 2) := by decide +kernel
theorem dX1_digitIsHere_15 : decode cX1_digitIsHere 15 = .ok (.if_icmp .gt 7, 3) := by decide +kernel
theorem dX1_digitIsHere_18 : decode cX1_digitIsHere 18 = .ok (.iconst 1, 1) := by decide +kernel
theorem dX1_digitIsHere_19 : decode cX1_digitIsHere 19 = .ok (.goto 4, 3) := by decide +kernel
theorem dX1_digitIsHere_22 : decode cX1_digitIsHere 22 = .ok (.iconst 0, 1) := by decide +kernel
theorem dX1_digitIsHere_23 : decode cX1_digitIsHere 23 = .ok (.ireturn, 1) := by decide +kernel
theorem dX1_readSign_0 : decode cX1_readSign 0 = .ok (.aload_n 0, 1) := by decide +kernel
theorem dX1_readSign_1 : decode cX1_readSign 1 = .ok (.invokevirtual 81, 3) := by decide +kernel
theorem dX1_readSign_4 : decode cX1_readSign 4 = .ok (.iload_n 1, 1) := by decide +kernel
theorem dX1_readSign_5 : decode cX1_readSign 5 = .ok (.if_icmp .eq 5, 3) := by decide +kernel
theorem dX1_readSign_8 : decode cX1_readSign 8 = .ok (.iconst 0, 1) := by decide +kernel
theorem dX1_readSign_9 : decode cX1_readSign 9 = .ok (.ireturn, 1) := by decide +kernel
theorem dX1_readSign_10 : decode cX1_readSign 10 = .ok (.aload_n 0, 1) := by decide +kernel
theorem dX1_readSign_11 : decode cX1_readSign 11 = .ok (.dup, 1) := by decide +kernel
theorem dX1_readSign_12 : decode cX1_readSign 12 = .ok (.getfield 19, 3) := by decide +kernel
theorem dX1_readSign_15 : decode cX1_readSign 15 = .ok (.iconst 1, 1) := by decide +kernel
theorem dX1_readSign_16 : decode cX1_readSign 16 = .ok (.iadd, 1) := by decide +kernel
theorem dX1_readSign_17 : decode cX1_readSign 17 = .ok (.putfield 19, 3) := by decide +kernel
theorem dX1_readSign_20 : decode cX1_readSign 20 = .ok (.iconst 1, 1) := by decide +kernel
theorem dX1_readSign_21 : decode cX1_readSign 21 = .ok (.ireturn, 1) := by decide +kernel
theorem dX1_readDigit_0 : decode cX1_readDigit 0 = .ok (.aload_n 0, 1) := by decide +kernel
theorem dX1_readDigit_1 : decode cX1_readDigit 1 = .ok (.invokevirtual 104, 3) := by decide +kernel
theorem dX1_readDigit_4 : decode cX1_readDigit 4 = .ok (.ifCond .ne 5, 3) := by decide +kernel
theorem dX1_readDigit_7 : decode cX1_readDigit 7 = .ok (.iconst 0, 1) := by decide +kernel
theorem dX1_readDigit_8 : decode cX1_readDigit 8 = .ok (.ireturn, 1) := by decide +kernel
theorem dX1_readDigit_9 : decode cX1_readDigit 9 = .ok (.aload_n 0, 1) := by decide +kernel
theorem dX1_readDigit_10 : decode cX1_readDigit 10 = .ok (.aload_n 0, 1) := by decide +kernel
theorem dX1_readDigit_11 : decode cX1_readDigit 11 = .ok (.getfield 25, 3) := by decide +kernel
theorem dX1_readDigit_14 : decode cX1_readDigit 14 = .ok (.putfield 28, 3) := by decide +kernel
theorem dX1_readDigit_17 : decode cX1_readDigit 17 = .ok (.aload_n 0, 1) := by decide +kernel
theorem dX1_readDigit_18 : decode cX1_readDigit 18 = .ok (.aload_n 0, 1) := by decide +kernel
theorem dX1_readDigit_19 : decode cX1_readDigit 19 = .ok (.invokevirtual 81, 3) := by decide +kernel
theorem dX1_readDigit_22 : decode cX1_readDigit 22 = .ok (.bipush 48, 2) := by decide +kernel
theorem dX1_readDigit_24 : decode cX1_readDigit 24 = .ok (.isub, 1) := by decide +kernel
theorem dX1_readDigit_25 : decode cX1_readDigit 25 = .ok (.putfield 25, 3) := by decide +kernel
theorem dX1_readDigit_28 : decode cX1_readDigit 28 = .ok (.aload_n 0, 1) := by decide +kernel
theorem dX1_readDigit_29 : decode cX1_readDigit 29 = .ok (.dup, 1) := by decide +kernel
theorem dX1_readDigit_30 : decode cX1_readDigit 30 = .ok (.getfield 19, 3) := by decide +kernel
theorem dX1_readDigit_33 : decode cX1_readDigit 33 = .ok (.iconst 1, 1) := by decide +kernel
theorem dX1_readDigit_34 : decode cX1_readDigit 34 = .ok (.iadd, 1) := by decide +kernel
theorem dX1_readDigit_35 : decode cX1_readDigit 35 = .ok (.putfield 19, 3) := by decide +kernel
theorem dX1_readDigit_38 : decode cX1_readDigit 38 = .ok (.iconst 1, 1) := by decide +kernel
theorem dX1_readDigit_39 : decode cX1_readDigit 39 = .ok (.ireturn, 1) := by decide +kernel
theorem dX1_readNumber_0 : decode cX1_readNumber 0 = .ok (.aload_n 0, 1) := by decide +kernel
theorem dX1_readNumber_1 : decode cX1_readNumber 1 = .ok (.invokevirtual 104, 3) := by decide +kernel
theorem dX1_readNumber_4 : decode cX1_readNumber 4 = .ok (.ifCond .ne 5, 3) := by decide +kernel
theorem dX1_readNumber_7 : decode cX1_readNumber 7 = .ok (.iconst 0, 1) := by decide +kernel
theorem dX1_readNumber_8 : decode cX1_readNumber 8 = .ok (.ireturn, 1) := by decide +kernel
theorem dX1_readNumber_9 : decode cX1_readNumber 9 = .ok (.iconst 0, 1) := by decide +kernel
theorem dX1_readNumber_10 : decode cX1_readNumber 10 = .ok (.istore_n 1, 1) := by decide +kernel
theorem dX1_readNumber_11 : decode cX1_readNumber 11 = .ok (.iconst 0, 1) := by decide +kernel
theorem dX1_readNumber_12 : decode cX1_readNumber 12 = .ok (.istore_n 2, 1) := by decide +kernel
theorem dX1_readNumber_13 : decode cX1_readNumber 13 = .ok (.iconst 0, 1) := by decide +kernel
theorem dX1_readNumber_14 : decode cX1_readNumber 14 = .ok (.istore_n 3, 1) := by decide +kernel
theorem dX1_readNumber_15 : decode cX1_readNumber 15 = .ok (.iload_n 3, 1) := by decide +kernel
theorem dX1_readNumber_16 : decode cX1_readNumber 16 = .ok (.iconst 3, 1) := by decide +kernel
theorem dX1_readNumber_17 : decode cX1_readNumber 17 = .ok (.if_icmp .ge 53, 3) := by decide +kernel
theorem dX1_readNumber_20 : decode cX1_readNumber 20 = .ok (.iload_n 2, 1) := by decide +kernel
theorem dX1_readNumber_21 : decode cX1_readNumber 21 = .ok (.ifCond .ne 49, 3) := by decide +kernel
theorem dX1_readNumber_24 : decode cX1_readNumber 24 = .ok (.aload_n 0, 1) := by decide +kernel
theorem dX1_readNumber_25 : decode cX1_readNumber 25 = .ok (.invokevirtual 104, 3) := by decide +kernel
theorem dX1_readNumber_28 : decode cX1_readNumber 28 = .ok (.ifCond .eq 42, 3) := by decide +kernel
theorem dX1_readNumber_31 : decode cX1_readNumber 31 = .ok (.iload_n 1, 1) := by decide +kernel
theorem dX1_readNumber_32 : decode cX1_readNumber 32 = .ok (.bipush 10, 2) := by decide +kernel
theorem dX1_readNumber_34 : decode cX1_readNumber 34 = .ok (.imul, 1) := by decide +kernel
theorem dX1_readNumber_35 : decode cX1_readNumber 35 = .ok (.aload_n 0, 1) := by decide +kernel
theorem dX1_readNumber_36 : decode cX1_readNumber 36 = .ok (.invokevirtual 81, 3) := by decide +kernel
theorem dX1_readNumber_39 : decode cX1_readNumber 39 = .ok (.iadd, 1) := by decide +kernel
theorem dX1_readNumber_40 : decode cX1_readNumber 40 = .ok (.bipush 48, 2) := by decide +kernel
theorem dX1_readNumber_42 : decode cX1_readNumber 42 = .ok (.isub, 1) := by decide +kernel
theorem dX1_readNumber_43 : decode cX1_readNumber 43 = .ok (.istore_n 1, 1) := by decide +kernel
theorem dX1_readNumber_44 : decode cX1_readNumber 44 = .ok (.iload_n 1, 1) := by decide +kernel
theorem dX1_readNumber_45 : decode cX1_readNumber 45 = .ok (.ifCond .ne 7, 3) := by decide +kernel
theorem dX1_readNumber_48 : decode cX1_readNumber 48 = .ok (.iconst 1, 1) := by decide +kernel
theorem dX1_readNumber_49 : decode cX1_readNumber 49 = .ok (.goto 4, 3) := by decide +kernel
theorem dX1_readNumber_52 : decode cX1_readNumber 52 = .ok (.iconst 0, 1) := by decide +kernel
theorem dX1_readNumber_53 : decode cX1_readNumber 53 = .ok (.istore_n 2, 1) := by decide +kernel
theorem dX1_readNumber_54 : decode cX1_readNumber 54 = .ok (.aload_n 0, 1) := by decide +kernel
theorem dX1_readNumber_55 : decode cX1_readNumber 55 = .ok (.dup, 1) := by decide +kernel
theorem dX1_readNumber_56 : decode cX1_readNumber 56 = .ok (.getfield 19, 3) := by decide +kernel
theorem dX1_readNumber_59 : decode cX1_readNumber 59 = .ok (.iconst 1, 1) := by decide +kernel
theorem dX1_readNumber_60 : decode cX1_readNumber 60 = .ok (.iadd, 1) := by decide +kernel
theorem dX1_readNumber_61 : decode cX1_readNumber 61 = .ok (.putfield 19, 3) := by decide +kernel
theorem dX1_readNumber_64 : decode cX1_readNumber 64 = .ok (.iinc 3 1, 3) := by decide +kernel
theorem dX1_readNumber_67 : decode cX1_readNumber 67 = .ok (.goto (-52), 3) := by decide +kernel
theorem dX1_readNumber_70 : decode cX1_readNumber 70 = .ok (.aload_n 0, 1) := by decide +kernel
theorem dX1_readNumber_71 : decode cX1_readNumber 71 = .ok (.aload_n 0, 1) := by decide +kernel
theorem dX1_readNumber_72 : decode cX1_readNumber 72 = .ok (.getfield 37, 3) := by decide +kernel
theorem dX1_readNumber_75 : decode cX1_readNumber 75 = .ok (.putfield 40, 3) := by decide +kernel
theorem dX1_readNumber_78 : decode cX1_readNumber 78 = .ok (.aload_n 0, 1) := by decide +kernel
theorem dX1_readNumber_79 : decode cX1_readNumber 79 = .ok (.iload_n 1, 1) := by decide +kernel
theorem dX1_readNumber_80 : decode cX1_readNumber 80 = .ok (.putfield 37, 3) := by decide +kernel
theorem dX1_readNumber_83 : decode cX1_readNumber 83 = .ok (.iconst 1, 1) := by decide +kernel
theorem dX1_readNumber_84 : decode cX1_readNumber 84 = .ok (.ireturn, 1) := by decide +kernel
theorem dX1_readKind_0 : decode cX1_readKind 0 = .ok (.aload_n 0, 1) := by decide +kernel
theorem dX1_readKind_1 : decode cX1_readKind 1 = .ok (.aload_n 0, 1) := by decide +kernel
theorem dX1_readKind_2 : decode cX1_readKind 2 = .ok (.invokevirtual 81, 3) := by decide +kernel
theorem dX1_readKind_5 : decode cX1_readKind 5 = .ok (.bipush 110, 2) := by decide +kernel
theorem dX1_readKind_7 : decode cX1_readKind 7 = .ok (.if_icmp .ne 7, 3) := by decide +kernel
theorem dX1_readKind_10 : decode cX1_readKind 10 = .ok (.iconst 1, 1) := by decide +kernel
theorem dX1_readKind_11 : decode cX1_readKind 11 = .ok (.goto 4, 3) := by decide +kernel
theorem dX1_readKind_14 : decode cX1_readKind 14 = .ok (.iconst 0, 1) := by decide +kernel
theorem dX1_readKind_15 : decode cX1_readKind 15 = .ok (.putfield 31, 3) := by decide +kernel
theorem dX1_readKind_18 : decode cX1_readKind 18 = .ok (.aload_n 0, 1) := by decide +kernel
theorem dX1_readKind_19 : decode cX1_readKind 19 = .ok (.aload_n 0, 1) := by decide +kernel
theorem dX1_readKind_20 : decode cX1_readKind 20 = .ok (.getfield 31, 3) := by decide +kernel
theorem dX1_readKind_23 : decode cX1_readKind 23 = .ok (.iconst 1, 1) := by decide +kernel
theorem dX1_readKind_24 : decode cX1_readKind 24 = .ok (.if_icmp .ne 8, 3) := by decide +kernel
theorem dX1_readKind_27 : decode cX1_readKind 27 = .ok (.bipush 110, 2) := by decide +kernel
theorem dX1_readKind_29 : decode cX1_readKind 29 = .ok (.goto 5, 3) := by decide +kernel
theorem dX1_readKind_32 : decode cX1_readKind 32 = .ok (.bipush 115, 2) := by decide +kernel
theorem dX1_readKind_34 : decode cX1_readKind 34 = .ok (.invokevirtual 88, 3) := by decide +kernel
theorem dX1_readKind_37 : decode cX1_readKind 37 = .ok (.ireturn, 1) := by decide +kernel
theorem dX1_readStuff_0 : decode cX1_readStuff 0 = .ok (.aload_n 0, 1) := by decide +kernel
theorem dX1_readStuff_1 : decode cX1_readStuff 1 = .ok (.aload_n 0, 1) := by decide +kernel
theorem dX1_readStuff_2 : decode cX1_readStuff 2 = .ok (.invokevirtual 81, 3) := by decide +kernel
theorem dX1_readStuff_5 : decode cX1_readStuff 5 = .ok (.bipush 77, 2) := by decide +kernel
theorem dX1_readStuff_7 : decode cX1_readStuff 7 = .ok (.if_icmp .ne 7, 3) := by decide +kernel
theorem dX1_readStuff_10 : decode cX1_readStuff 10 = .ok (.iconst 1, 1) := by decide +kernel
theorem dX1_readStuff_11 : decode cX1_readStuff 11 = .ok (.goto 4, 3) := by decide +kernel
theorem dX1_readStuff_14 : decode cX1_readStuff 14 = .ok (.iconst 0, 1) := by decide +kernel
end
section
theorem dX1_readStuff_15 : decode cX1_readStuff 15 = .ok (.putfield 34, 3) := by decide +kernel
theorem dX1_readStuff_18 : decode cX1_readStuff 18 = .ok (.aload_n 0, 1) := by decide +kernel
theorem dX1_readStuff_19 : decode cX1_readStuff 19 = .ok (.aload_n 0, 1) := by decide +kernel
theorem dX1_readStuff_20 : decode cX1_readStuff 20 = .ok (.getfield 34, 3) := by decide +kernel
theorem dX1_readStuff_23 : decode cX1_readStuff 23 = .ok (.iconst 1, 1) := by decide +kernel
theorem dX1_readStuff_24 : decode cX1_readStuff 24 = .ok (.if_icmp .ne 8, 3) := by decide +kernel
theorem dX1_readStuff_27 : decode cX1_readStuff 27 = .ok (.bipush 77, 2) := by decide +kernel
theorem dX1_readStuff_29 : decode cX1_readStuff 29 = .ok (.goto 5, 3) := by decide +kernel
theorem dX1_readStuff_32 : decode cX1_readStuff 32 = .ok (.bipush 83, 2) := by decide +kernel
theorem dX1_readStuff_34 : decode cX1_readStuff 34 = .ok (.invokevirtual 88, 3) := by decide +kernel
theorem dX1_readStuff_37 : decode cX1_readStuff 37 = .ok (.ireturn, 1) := by decide +kernel
theorem dX1_readMoon_0 : decode cX1_readMoon 0 = .ok (.aload_n 0, 1) := by decide +kernel
theorem dX1_readMoon_1 : decode cX1_readMoon 1 = .ok (.iconst 0, 1) := by decide +kernel
theorem dX1_readMoon_2 : decode cX1_readMoon 2 = .ok (.putfield 43, 3) := by decide +kernel
theorem dX1_readMoon_5 : decode cX1_readMoon 5 = .ok (.aload_n 0, 1) := by decide +kernel
theorem dX1_readMoon_6 : decode cX1_readMoon 6 = .ok (.iconst 0, 1) := by decide +kernel
theorem dX1_readMoon_7 : decode cX1_readMoon 7 = .ok (.putfield 46, 3) := by decide +kernel
theorem dX1_readMoon_10 : decode cX1_readMoon 10 = .ok (.iconst 0, 1) := by decide +kernel
theorem dX1_readMoon_11 : decode cX1_readMoon 11 = .ok (.istore_n 1, 1) := by decide +kernel
theorem dX1_readMoon_12 : decode cX1_readMoon 12 = .ok (.iload_n 1, 1) := by decide +kernel
theorem dX1_readMoon_13 : decode cX1_readMoon 13 = .ok (.bipush 28, 2) := by decide +kernel
theorem dX1_readMoon_15 : decode cX1_readMoon 15 = .ok (.if_icmp .ge 41, 3) := by decide +kernel
theorem dX1_readMoon_18 : decode cX1_readMoon 18 = .ok (.aload_n 0, 1) := by decide +kernel
theorem dX1_readMoon_19 : decode cX1_readMoon 19 = .ok (.invokevirtual 95, 3) := by decide +kernel
theorem dX1_readMoon_22 : decode cX1_readMoon 22 = .ok (.ifCond .eq 34, 3) := by decide +kernel
theorem dX1_readMoon_25 : decode cX1_readMoon 25 = .ok (.aload_n 0, 1) := by decide +kernel
theorem dX1_readMoon_26 : decode cX1_readMoon 26 = .ok (.dup, 1) := by decide +kernel
theorem dX1_readMoon_27 : decode cX1_readMoon 27 = .ok (.getfield 46, 3) := by decide +kernel
theorem dX1_readMoon_30 : decode cX1_readMoon 30 = .ok (.aload_n 0, 1) := by decide +kernel
theorem dX1_readMoon_31 : decode cX1_readMoon 31 = .ok (.getfield 31, 3) := by decide +kernel
theorem dX1_readMoon_34 : decode cX1_readMoon 34 = .ok (.iload_n 1, 1) := by decide +kernel
theorem dX1_readMoon_35 : decode cX1_readMoon 35 = .ok (.ishl, 1) := by decide +kernel
theorem dX1_readMoon_36 : decode cX1_readMoon 36 = .ok (.ior, 1) := by decide +kernel
theorem dX1_readMoon_37 : decode cX1_readMoon 37 = .ok (.putfield 46, 3) := by decide +kernel
theorem dX1_readMoon_40 : decode cX1_readMoon 40 = .ok (.aload_n 0, 1) := by decide +kernel
theorem dX1_readMoon_41 : decode cX1_readMoon 41 = .ok (.dup, 1) := by decide +kernel
theorem dX1_readMoon_42 : decode cX1_readMoon 42 = .ok (.getfield 43, 3) := by decide +kernel
theorem dX1_readMoon_45 : decode cX1_readMoon 45 = .ok (.iconst 1, 1) := by decide +kernel
theorem dX1_readMoon_46 : decode cX1_readMoon 46 = .ok (.iadd, 1) := by decide +kernel
theorem dX1_readMoon_47 : decode cX1_readMoon 47 = .ok (.putfield 43, 3) := by decide +kernel
theorem dX1_readMoon_50 : decode cX1_readMoon 50 = .ok (.iinc 1 1, 3) := by decide +kernel
theorem dX1_readMoon_53 : decode cX1_readMoon 53 = .ok (.goto (-41), 3) := by decide +kernel
theorem dX1_readMoon_56 : decode cX1_readMoon 56 = .ok (.aload_n 0, 1) := by decide +kernel
theorem dX1_readMoon_57 : decode cX1_readMoon 57 = .ok (.getfield 43, 3) := by decide +kernel
theorem dX1_readMoon_60 : decode cX1_readMoon 60 = .ok (.ifCond .le 7, 3) := by decide +kernel
theorem dX1_readMoon_63 : decode cX1_readMoon 63 = .ok (.iconst 1, 1) := by decide +kernel
theorem dX1_readMoon_64 : decode cX1_readMoon 64 = .ok (.goto 4, 3) := by decide +kernel
theorem dX1_readMoon_67 : decode cX1_readMoon 67 = .ok (.iconst 0, 1) := by decide +kernel
theorem dX1_readMoon_68 : decode cX1_readMoon 68 = .ok (.ireturn, 1) := by decide +kernel
theorem dX2_init_0 : decode cX2_init 0 = .ok (.aload_n 0, 1) := by decide +kernel
theorem dX2_init_1 : decode cX2_init 1 = .ok (.invokespecial 3, 3) := by decide +kernel
theorem dX2_init_4 : decode cX2_init 4 = .ok (.aload_n 0, 1) := by decide +kernel
theorem dX2_init_5 : decode cX2_init 5 = .ok (.iconst 0, 1) := by decide +kernel
theorem dX2_init_6 : decode cX2_init 6 = .ok (.putfield 9, 3) := by decide +kernel
theorem dX2_init_9 : decode cX2_init 9 = .ok (.aload_n 0, 1) := by decide +kernel
theorem dX2_init_10 : decode cX2_init 10 = .ok (.bipush 8, 2) := by decide +kernel
theorem dX2_init_12 : decode cX2_init 12 = .ok (.putfield 15, 3) := by decide +kernel
theorem dX2_init_15 : decode cX2_init 15 = .ok (.aload_n 0, 1) := by decide +kernel
theorem dX2_init_16 : decode cX2_init 16 = .ok (.iconst 0, 1) := by decide +kernel
theorem dX2_init_17 : decode cX2_init 17 = .ok (.putfield 18, 3) := by decide +kernel
theorem dX2_init_20 : decode cX2_init 20 = .ok (.aload_n 0, 1) := by decide +kernel
theorem dX2_init_21 : decode cX2_init 21 = .ok (.iconst 0, 1) := by decide +kernel
theorem dX2_init_22 : decode cX2_init 22 = .ok (.putfield 21, 3) := by decide +kernel
theorem dX2_init_25 : decode cX2_init 25 = .ok (.aload_n 0, 1) := by decide +kernel
theorem dX2_init_26 : decode cX2_init 26 = .ok (.iconst 1, 1) := by decide +kernel
theorem dX2_init_27 : decode cX2_init 27 = .ok (.putfield 24, 3) := by decide +kernel
theorem dX2_init_30 : decode cX2_init 30 = .ok (.return_, 1) := by decide +kernel
theorem dX2_become_0 : decode cX2_become 0 = .ok (.aload_n 0, 1) := by decide +kernel
theorem dX2_become_1 : decode cX2_become 1 = .ok (.aload_n 1, 1) := by decide +kernel
theorem dX2_become_2 : decode cX2_become 2 = .ok (.getfield 9, 3) := by decide +kernel
theorem dX2_become_5 : decode cX2_become 5 = .ok (.putfield 9, 3) := by decide +kernel
theorem dX2_become_8 : decode cX2_become 8 = .ok (.aload_n 0, 1) := by decide +kernel
theorem dX2_become_9 : decode cX2_become 9 = .ok (.aload_n 1, 1) := by decide +kernel
theorem dX2_become_10 : decode cX2_become 10 = .ok (.getfield 15, 3) := by decide +kernel
theorem dX2_become_13 : decode cX2_become 13 = .ok (.putfield 15, 3) := by decide +kernel
theorem dX2_become_16 : decode cX2_become 16 = .ok (.aload_n 0, 1) := by decide +kernel
theorem dX2_become_17 : decode cX2_become 17 = .ok (.aload_n 1, 1) := by decide +kernel
theorem dX2_become_18 : decode cX2_become 18 = .ok (.getfield 18, 3) := by decide +kernel
theorem dX2_become_21 : decode cX2_become 21 = .ok (.putfield 18, 3) := by decide +kernel
theorem dX2_become_24 : decode cX2_become 24 = .ok (.aload_n 0, 1) := by decide +kernel
theorem dX2_become_25 : decode cX2_become 25 = .ok (.aload_n 1, 1) := by decide +kernel
theorem dX2_become_26 : decode cX2_become 26 = .ok (.getfield 21, 3) := by decide +kernel
theorem dX2_become_29 : decode cX2_become 29 = .ok (.putfield 21, 3) := by decide +kernel
theorem dX2_become_32 : decode cX2_become 32 = .ok (.aload_n 0, 1) := by decide +kernel
theorem dX2_become_33 : decode cX2_become 33 = .ok (.aload_n 1, 1) := by decide +kernel
theorem dX2_become_34 : decode cX2_become 34 = .ok (.getfield 24, 3) := by decide +kernel
theorem dX2_become_37 : decode cX2_become 37 = .ok (.putfield 24, 3) := by decide +kernel
theorem dX2_become_40 : decode cX2_become 40 = .ok (.return_, 1) := by decide +kernel
theorem dX2_greatest_0 : decode cX2_greatest 0 = .ok (.iload_n 0, 1) := by decide +kernel
theorem dX2_greatest_1 : decode cX2_greatest 1 = .ok (.lookupswitch 33 #[(0, 27), (2, 31)], 27) := by decide +kernel
theorem dX2_greatest_28 : decode cX2_greatest 28 = .ok (.sipush 999, 3) := by decide +kernel
theorem dX2_greatest_31 : decode cX2_greatest 31 = .ok (.ireturn, 1) := by decide +kernel
theorem dX2_greatest_32 : decode cX2_greatest 32 = .ok (.iconst 4, 1) := by decide +kernel
theorem dX2_greatest_33 : decode cX2_greatest 33 = .ok (.ireturn, 1) := by decide +kernel
theorem dX2_greatest_34 : decode cX2_greatest 34 = .ok (.bipush 99, 2) := by decide +kernel
theorem dX2_greatest_36 : decode cX2_greatest 36 = .ok (.ireturn, 1) := by decide +kernel
theorem dX2_change_0 : decode cX2_change 0 = .ok (.iload_n 1, 1) := by decide +kernel
theorem dX2_change_1 : decode cX2_change 1 = .ok (.tableswitch 79 0 3 #[31, 43, 55, 67], 31) := by decide +kernel
theorem dX2_change_32 : decode cX2_change 32 = .ok (.aload_n 0, 1) := by decide +kernel
theorem dX2_change_33 : decode cX2_change 33 = .ok (.getfield 9, 3) := by decide +kernel
theorem dX2_change_36 : decode cX2_change 36 = .ok (.istore_n 3, 1) := by decide +kernel
theorem dX2_change_37 : decode cX2_change 37 = .ok (.aload_n 0, 1) := by decide +kernel
theorem dX2_change_38 : decode cX2_change 38 = .ok (.iload_n 2, 1) := by decide +kernel
theorem dX2_change_39 : decode cX2_change 39 = .ok (.putfield 9, 3) := by decide +kernel
theorem dX2_change_42 : decode cX2_change 42 = .ok (.iload_n 3, 1) := by decide +kernel
theorem dX2_change_43 : decode cX2_change 43 = .ok (.ireturn, 1) := by decide +kernel
theorem dX2_change_44 : decode cX2_change 44 = .ok (.aload_n 0, 1) := by decide +kernel
theorem dX2_change_45 : decode cX2_change 45 = .ok (.getfield 15, 3) := by decide +kernel
theorem dX2_change_48 : decode cX2_change 48 = .ok (.istore_n 3, 1) := by decide +kernel
theorem dX2_change_49 : decode cX2_change 49 = .ok (.aload_n 0, 1) := by decide +kernel
theorem dX2_change_50 : decode cX2_change 50 = .ok (.iload_n 2, 1) := by decide +kernel
theorem dX2_change_51 : decode cX2_change 51 = .ok (.putfield 15, 3) := by decide +kernel
theorem dX2_change_54 : decode cX2_change 54 = .ok (.iload_n 3, 1) := by decide +kernel
theorem dX2_change_55 : decode cX2_change 55 = .ok (.ireturn, 1) := by decide +kernel
theorem dX2_change_56 : decode cX2_change 56 = .ok (.aload_n 0, 1) := by decide +kernel
theorem dX2_change_57 : decode cX2_change 57 = .ok (.getfield 18, 3) := by decide +kernel
theorem dX2_change_60 : decode cX2_change 60 = .ok (.istore_n 3, 1) := by decide +kernel
theorem dX2_change_61 : decode cX2_change 61 = .ok (.aload_n 0, 1) := by decide +kernel
theorem dX2_change_62 : decode cX2_change 62 = .ok (.iload_n 2, 1) := by decide +kernel
theorem dX2_change_63 : decode cX2_change 63 = .ok (.putfield 18, 3) := by decide +kernel
theorem dX2_change_66 : decode cX2_change 66 = .ok (.iload_n 3, 1) := by decide +kernel
theorem dX2_change_67 : decode cX2_change 67 = .ok (.ireturn, 1) := by decide +kernel
theorem dX2_change_68 : decode cX2_change 68 = .ok (.aload_n 0, 1) := by decide +kernel
theorem dX2_change_69 : decode cX2_change 69 = .ok (.getfield 21, 3) := by decide +kernel
theorem dX2_change_72 : decode cX2_change 72 = .ok (.istore_n 3, 1) := by decide +kernel
theorem dX2_change_73 : decode cX2_change 73 = .ok (.aload_n 0, 1) := by decide +kernel
theorem dX2_change_74 : decode cX2_change 74 = .ok (.iload_n 2, 1) := by decide +kernel
theorem dX2_change_75 : decode cX2_change 75 = .ok (.putfield 21, 3) := by decide +kernel
theorem dX2_change_78 : decode cX2_change 78 = .ok (.iload_n 3, 1) := by decide +kernel
theorem dX2_change_79 : decode cX2_change 79 = .ok (.ireturn, 1) := by decide +kernel
theorem dX2_change_80 : decode cX2_change 80 = .ok (.aload_n 0, 1) := by decide +kernel
theorem dX2_change_81 : decode cX2_change 81 = .ok (.getfield 24, 3) := by decide +kernel
theorem dX2_change_84 : decode cX2_change 84 = .ok (.istore_n 3, 1) := by decide +kernel
theorem dX2_change_85 : decode cX2_change 85 = .ok (.aload_n 0, 1) := by decide +kernel
theorem dX2_change_86 : decode cX2_change 86 = .ok (.iload_n 2, 1) := by decide +kernel
theorem dX2_change_87 : decode cX2_change 87 = .ok (.putfield 24, 3) := by decide +kernel
theorem dX2_change_90 : decode cX2_change 90 = .ok (.iload_n 3, 1) := by decide +kernel
theorem dX2_change_91 : decode cX2_change 91 = .ok (.ireturn, 1) := by decide +kernel
theorem dX3_init_0 : decode cX3_init 0 = .ok (.aload_n 0, 1) := by decide +kernel
theorem dX3_init_1 : decode cX3_init 1 = .ok (.invokespecial 3, 3) := by decide +kernel
theorem dX3_init_4 : decode cX3_init 4 = .ok (.aload_n 0, 1) := by decide +kernel
theorem dX3_init_5 : decode cX3_init 5 = .ok (.new 9, 3) := by decide +kernel
theorem dX3_init_8 : decode cX3_init 8 = .ok (.dup, 1) := by decide +kernel
theorem dX3_init_9 : decode cX3_init 9 = .ok (.invokespecial 11, 3) := by decide +kernel
theorem dX3_init_12 : decode cX3_init 12 = .ok (.putfield 12, 3) := by decide +kernel
theorem dX3_init_15 : decode cX3_init 15 = .ok (.aload_n 0, 1) := by decide +kernel
theorem dX3_init_16 : decode cX3_init 16 = .ok (.new 18, 3) := by decide +kernel
theorem dX3_init_19 : decode cX3_init 19 = .ok (.dup, 1) := by decide +kernel
theorem dX3_init_20 : decode cX3_init 20 = .ok (.invokespecial 20, 3) := by decide +kernel
theorem dX3_init_23 : decode cX3_init 23 = .ok (.putfield 21, 3) := by decide +kernel
theorem dX3_init_26 : decode cX3_init 26 = .ok (.aload_n 0, 1) := by decide +kernel
theorem dX3_init_27 : decode cX3_init 27 = .ok (.new 25, 3) := by decide +kernel
theorem dX3_init_30 : decode cX3_init 30 = .ok (.dup, 1) := by decide +kernel
theorem dX3_init_31 : decode cX3_init 31 = .ok (.invokespecial 27, 3) := by decide +kernel
theorem dX3_init_34 : decode cX3_init 34 = .ok (.putfield 28, 3) := by decide +kernel
theorem dX3_init_37 : decode cX3_init 37 = .ok (.aload_n 0, 1) := by decide +kernel
theorem dX3_init_38 : decode cX3_init 38 = .ok (.new 32, 3) := by decide +kernel
theorem dX3_init_41 : decode cX3_init 41 = .ok (.dup, 1) := by decide +kernel
theorem dX3_init_42 : decode cX3_init 42 = .ok (.invokespecial 34, 3) := by decide +kernel
theorem dX3_init_45 : decode cX3_init 45 = .ok (.putfield 35, 3) := by decide +kernel
theorem dX3_init_48 : decode cX3_init 48 = .ok (.aload_n 0, 1) := by decide +kernel
theorem dX3_init_49 : decode cX3_init 49 = .ok (.iconst 1, 1) := by decide +kernel
theorem dX3_init_50 : decode cX3_init 50 = .ok (.putfield 39, 3) := by decide +kernel
theorem dX3_init_53 : decode cX3_init 53 = .ok (.aload_n 0, 1) := by decide +kernel
theorem dX3_init_54 : decode cX3_init 54 = .ok (.iconst 0, 1) := by decide +kernel
theorem dX3_init_55 : decode cX3_init 55 = .ok (.putfield 43, 3) := by decide +kernel
theorem dX3_init_58 : decode cX3_init 58 = .ok (.aload_n 0, 1) := by decide +kernel
theorem dX3_init_59 : decode cX3_init 59 = .ok (.iconst 0, 1) := by decide +kernel
theorem dX3_init_60 : decode cX3_init 60 = .ok (.putfield 46, 3) := by decide +kernel
theorem dX3_init_63 : decode cX3_init 63 = .ok (.aload_n 0, 1) := by decide +kernel
theorem dX3_init_64 : decode cX3_init 64 = .ok (.iconst 0, 1) := by decide +kernel
theorem dX3_init_65 : decode cX3_init 65 = .ok (.putfield 49, 3) := by decide +kernel
theorem dX3_init_68 : decode cX3_init 68 = .ok (.aload_n 0, 1) := by decide +kernel
theorem dX3_init_69 : decode cX3_init 69 = .ok (.iconst 0, 1) := by decide +kernel
theorem dX3_init_70 : decode cX3_init 70 = .ok (.putfield 52, 3) := by decide +kernel
theorem dX3_init_73 : decode cX3_init 73 = .ok (.aload_n 0, 1) := by decide +kernel
theorem dX3_init_74 : decode cX3_init 74 = .ok (.iconst 0, 1) := by decide +kernel
theorem dX3_init_75 : decode cX3_init 75 = .ok (.putfield 55, 3) := by decide +kernel
theorem dX3_init_78 : decode cX3_init 78 = .ok (.aload_n 0, 1) := by decide +kernel
theorem dX3_init_79 : decode cX3_init 79 = .ok (.iconst 0, 1) := by decide +kernel
theorem dX3_init_80 : decode cX3_init 80 = .ok (.putfield 58, 3) := by decide +kernel
theorem dX3_init_83 : decode cX3_init 83 = .ok (.aload_n 0, 1) := by decide +kernel
theorem dX3_init_84 : decode cX3_init 84 = .ok (.bipush 16, 2) := by decide +kernel
theorem dX3_init_86 : decode cX3_init 86 = .ok (.newarray .int, 2) := by decide +kernel
theorem dX3_init_88 : decode cX3_init 88 = .ok (.putfield 61, 3) := by decide +kernel
theorem dX3_init_91 : decode cX3_init 91 = .ok (.return_, 1) := by decide +kernel
theorem dX3_become_0 : decode cX3_become 0 = .ok (.aload_n 0, 1) := by decide +kernel
theorem dX3_become_1 : decode cX3_become 1 = .ok (.getfield 12, 3) := by decide +kernel
theorem dX3_become_4 : decode cX3_become 4 = .ok (.aload_n 1, 1) := by decide +kernel
theorem dX3_become_5 : decode cX3_become 5 = .ok (.getfield 12, 3) := by decide +kernel
theorem dX3_become_8 : decode cX3_become 8 = .ok (.invokevirtual 65, 3) := by decide +kernel
theorem dX3_become_11 : decode cX3_become 11 = .ok (.aload_n 0, 1) := by decide +kernel
theorem dX3_become_12 : decode cX3_become 12 = .ok (.getfield 21, 3) := by decide +kernel
theorem dX3_become_15 : decode cX3_become 15 = .ok (.aload_n 1, 1) := by decide +kernel
theorem dX3_become_16 : decode cX3_become 16 = .ok (.getfield 21, 3) := by decide +kernel
theorem dX3_become_19 : decode cX3_become 19 = .ok (.invokevirtual 69, 3) := by decide +kernel
theorem dX3_become_22 : decode cX3_become 22 = .ok (.aload_n 0, 1) := by decide +kernel
theorem dX3_become_23 : decode cX3_become 23 = .ok (.getfield 28, 3) := by decide +kernel
theorem dX3_become_26 : decode cX3_become 26 = .ok (.aload_n 1, 1) := by decide +kernel
theorem dX3_become_27 : decode cX3_become 27 = .ok (.getfield 28, 3) := by decide +kernel
theorem dX3_become_30 : decode cX3_become 30 = .ok (.invokevirtual 72, 3) := by decide +kernel
theorem dX3_become_33 : decode cX3_become 33 = .ok (.aload_n 0, 1) := by decide +kernel
theorem dX3_become_34 : decode cX3_become 34 = .ok (.getfield 35, 3) := by decide +kernel
theorem dX3_become_37 : decode cX3_become 37 = .ok (.aload_n 1, 1) := by decide +kernel
theorem dX3_become_38 : decode cX3_become 38 = .ok (.getfield 35, 3) := by decide +kernel
theorem dX3_become_41 : decode cX3_become 41 = .ok (.invokevirtual 75, 3) := by decide +kernel
theorem dX3_become_44 : decode cX3_become 44 = .ok (.aload_n 0, 1) := by decide +kernel
theorem dX3_become_45 : decode cX3_become 45 = .ok (.aload_n 1, 1) := by decide +kernel
theorem dX3_become_46 : decode cX3_become 46 = .ok (.getfield 39, 3) := by decide +kernel
theorem dX3_become_49 : decode cX3_become 49 = .ok (.putfield 39, 3) := by decide +kernel
theorem dX3_become_52 : decode cX3_become 52 = .ok (.aload_n 0, 1) := by decide +kernel
theorem dX3_become_53 : decode cX3_become 53 = .ok (.aload_n 1, 1) := by decide +kernel
theorem dX3_become_54 : decode cX3_become 54 = .ok (.getfield 43, 3) := by decide +kernel
theorem dX3_become_57 : decode cX3_become 57 = .ok (.putfield 43, 3) := by decide +kernel
theorem dX3_become_60 : decode cX3_become 60 = .ok (.aload_n 0, 1) := by decide +kernel
theorem dX3_become_61 : decode cX3_become 61 = .ok (.aload_n 1, 1) := by decide +kernel
theorem dX3_become_62 : decode cX3_become 62 = .ok (.getfield 46, 3) := by decide +kernel
theorem dX3_become_65 : decode cX3_become 65 = .ok (.putfield 46, 3) := by decide +kernel
theorem dX3_become_68 : decode cX3_become 68 = .ok (.aload_n 0, 1) := by decide +kernel
theorem dX3_become_69 : decode cX3_become 69 = .ok (.aload_n 1, 1) := by decide +kernel
theorem dX3_become_70 : decode cX3_become 70 = .ok (.getfield 49, 3) := by decide +kernel
theorem dX3_become_73 : decode cX3_become 73 = .ok (.putfield 49, 3) := by decide +kernel
theorem dX3_become_76 : decode cX3_become 76 = .ok (.aload_n 0, 1) := by decide +kernel
theorem dX3_become_77 : decode cX3_become 77 = .ok (.aload_n 1, 1) := by decide +kernel
theorem dX3_become_78 : decode cX3_become 78 = .ok (.getfield 52, 3) := by decide +kernel
theorem dX3_become_81 : decode cX3_become 81 = .ok (.putfield 52, 3) := by decide +kernel
theorem dX3_become_84 : decode cX3_become 84 = .ok (.return_, 1) := by decide +kernel
theorem dX3_addWay_0 : decode cX3_addWay 0 = .ok (.aload_n 0, 1) := by decide +kernel
theorem dX3_addWay_1 : decode cX3_addWay 1 = .ok (.getfield 12, 3) := by decide +kernel
theorem dX3_addWay_4 : decode cX3_addWay 4 = .ok (.iload_n 1, 1) := by decide +kernel
theorem dX3_addWay_5 : decode cX3_addWay 5 = .ok (.invokevirtual 78, 3) := by decide +kernel
theorem dX3_addWay_8 : decode cX3_addWay 8 = .ok (.ifCond .eq 25, 3) := by decide +kernel
theorem dX3_addWay_11 : decode cX3_addWay 11 = .ok (.aload_n 0, 1) := by decide +kernel
theorem dX3_addWay_12 : decode cX3_addWay 12 = .ok (.getfield 12, 3) := by decide +kernel
theorem dX3_addWay_15 : decode cX3_addWay 15 = .ok (.iload_n 2, 1) := by decide +kernel
theorem dX3_addWay_16 : decode cX3_addWay 16 = .ok (.invokevirtual 78, 3) := by decide +kernel
theorem dX3_addWay_19 : decode cX3_addWay 19 = .ok (.ifCond .ne 9, 3) := by decide +kernel
theorem dX3_addWay_22 : decode cX3_addWay 22 = .ok (.iload_n 2, 1) := by decide +kernel
theorem dX3_addWay_23 : decode cX3_addWay 23 = .ok (.bipush 8, 2) := by decide +kernel
theorem dX3_addWay_25 : decode cX3_addWay 25 = .ok (.if_icmp .ne 8, 3) := by decide +kernel
theorem dX3_addWay_28 : decode cX3_addWay 28 = .ok (.iload_n 1, 1) := by decide +kernel
theorem dX3_addWay_29 : decode cX3_addWay 29 = .ok (.iload_n 2, 1) := by decide +kernel
theorem dX3_addWay_30 : decode cX3_addWay 30 = .ok (.if_icmp .ne 5, 3) := by decide +kernel
theorem dX3_addWay_33 : decode cX3_addWay 33 = .ok (.iconst (-1), 1) := by decide +kernel
theorem dX3_addWay_34 : decode cX3_addWay 34 = .ok (.ireturn, 1) := by decide +kernel
theorem dX3_addWay_35 : decode cX3_addWay 35 = .ok (.iload_n 3, 1) := by decide +kernel
theorem dX3_addWay_36 : decode cX3_addWay 36 = .ok (.invokestatic 82, 3) := by decide +kernel
theorem dX3_addWay_39 : decode cX3_addWay 39 = .ok (.ifCond .eq 11, 3) := by decide +kernel
theorem dX3_addWay_42 : decode cX3_addWay 42 = .ok (.iload 4, 2) := by decide +kernel
theorem dX3_addWay_44 : decode cX3_addWay 44 = .ok (.invokestatic 85, 3) := by decide +kernel
theorem dX3_addWay_47 : decode cX3_addWay 47 = .ok (.ifCond .ne 5, 3) := by decide +kernel
theorem dX3_addWay_50 : decode cX3_addWay 50 = .ok (.iconst (-1), 1) := by decide +kernel
theorem dX3_addWay_51 : decode cX3_addWay 51 = .ok (.ireturn, 1) := by decide +kernel
theorem dX3_addWay_52 : decode cX3_addWay 52 = .ok (.iload 5, 2) := by decide +kernel
theorem dX3_addWay_54 : decode cX3_addWay 54 = .ok (.iconst 1, 1) := by decide +kernel
theorem dX3_addWay_55 : decode cX3_addWay 55 = .ok (.if_icmp .ge 6, 3) := by decide +kernel
theorem dX3_addWay_58 : decode cX3_addWay 58 = .ok (.bipush (-4), 2) := by decide +kernel
theorem dX3_addWay_60 : decode cX3_addWay 60 = .ok (.ireturn, 1) := by decide +kernel
theorem dX3_addWay_61 : decode cX3_addWay 61 = .ok (.iload 5, 2) := by decide +kernel
theorem dX3_addWay_63 : decode cX3_addWay 63 = .ok (.bipush 100, 2) := by decide +kernel
theorem dX3_addWay_65 : decode cX3_addWay 65 = .ok (.if_icmp .gt 13, 3) := by decide +kernel
theorem dX3_addWay_68 : decode cX3_addWay 68 = .ok (.aload_n 0, 1) := by decide +kernel
theorem dX3_addWay_69 : decode cX3_addWay 69 = .ok (.getfield 21, 3) := by decide +kernel
theorem dX3_addWay_72 : decode cX3_addWay 72 = .ok (.invokevirtual 88, 3) := by decide +kernel
theorem dX3_addWay_75 : decode cX3_addWay 75 = .ok (.ifCond .eq 6, 3) := by decide +kernel
theorem dX3_addWay_78 : decode cX3_addWay 78 = .ok (.bipush (-6), 2) := by decide +kernel
theorem dX3_addWay_80 : decode cX3_addWay 80 = .ok (.ireturn, 1) := by decide +kernel
theorem dX3_addWay_81 : decode cX3_addWay 81 = .ok (.aload_n 0, 1) := by decide +kernel
theorem dX3_addWay_82 : decode cX3_addWay 82 = .ok (.getfield 21, 3) := by decide +kernel
theorem dX3_addWay_85 : decode cX3_addWay 85 = .ok (.iload_n 1, 1) := by decide +kernel
theorem dX3_addWay_86 : decode cX3_addWay 86 = .ok (.iload_n 3, 1) := by decide +kernel
theorem dX3_addWay_87 : decode cX3_addWay 87 = .ok (.iload 4, 2) := by decide +kernel
theorem dX3_addWay_89 : decode cX3_addWay 89 = .ok (.invokevirtual 92, 3) := by decide +kernel
theorem dX3_addWay_92 : decode cX3_addWay 92 = .ok (.iload 5, 2) := by decide +kernel
theorem dX3_addWay_94 : decode cX3_addWay 94 = .ok (.iadd, 1) := by decide +kernel
theorem dX3_addWay_95 : decode cX3_addWay 95 = .ok (.bipush 100, 2) := by decide +kernel
theorem dX3_addWay_97 : decode cX3_addWay 97 = .ok (.if_icmp .le 6, 3) := by decide +kernel
theorem dX3_addWay_100 : decode cX3_addWay 100 = .ok (.bipush (-3), 2) := by decide +kernel
theorem dX3_addWay_102 : decode cX3_addWay 102 = .ok (.ireturn, 1) := by decide +kernel
theorem dX3_addWay_103 : decode cX3_addWay 103 = .ok (.aload_n 0, 1) := by decide +kernel
theorem dX3_addWay_104 : decode cX3_addWay 104 = .ok (.getfield 21, 3) := by decide +kernel
theorem dX3_addWay_107 : decode cX3_addWay 107 = .ok (.iload_n 1, 1) := by decide +kernel
theorem dX3_addWay_108 : decode cX3_addWay 108 = .ok (.iload_n 2, 1) := by decide +kernel
theorem dX3_addWay_109 : decode cX3_addWay 109 = .ok (.iload_n 3, 1) := by decide +kernel
theorem dX3_addWay_110 : decode cX3_addWay 110 = .ok (.iload 4, 2) := by decide +kernel
theorem dX3_addWay_112 : decode cX3_addWay 112 = .ok (.iload 5, 2) := by decide +kernel
theorem dX3_addWay_114 : decode cX3_addWay 114 = .ok (.invokevirtual 96, 3) := by decide +kernel
theorem dX3_addWay_117 : decode cX3_addWay 117 = .ok (.ireturn, 1) := by decide +kernel
theorem dX3_addRiver_0 : decode cX3_addRiver 0 = .ok (.aload_n 0, 1) := by decide +kernel
theorem dX3_addRiver_1 : decode cX3_addRiver 1 = .ok (.getfield 12, 3) := by decide +kernel
theorem dX3_addRiver_4 : decode cX3_addRiver 4 = .ok (.iload_n 1, 1) := by decide +kernel
theorem dX3_addRiver_5 : decode cX3_addRiver 5 = .ok (.invokevirtual 78, 3) := by decide +kernel
theorem dX3_addRiver_8 : decode cX3_addRiver 8 = .ok (.ifCond .eq 10, 3) := by decide +kernel
theorem dX3_addRiver_11 : decode cX3_addRiver 11 = .ok (.iload_n 2, 1) := by decide +kernel
theorem dX3_addRiver_12 : decode cX3_addRiver 12 = .ok (.invokestatic 85, 3) := by decide +kernel
theorem dX3_addRiver_15 : decode cX3_addRiver 15 = .ok (.ifCond .ne 5, 3) := by decide +kernel
theorem dX3_addRiver_18 : decode cX3_addRiver 18 = .ok (.iconst (-1), 1) := by decide +kernel
theorem dX3_addRiver_19 : decode cX3_addRiver 19 = .ok (.ireturn, 1) := by decide +kernel
theorem dX3_addRiver_20 : decode cX3_addRiver 20 = .ok (.iload_n 3, 1) := by decide +kernel
theorem dX3_addRiver_21 : decode cX3_addRiver 21 = .ok (.iconst 1, 1) := by decide +kernel
theorem dX3_addRiver_22 : decode cX3_addRiver 22 = .ok (.if_icmp .ge 6, 3) := by decide +kernel
theorem dX3_addRiver_25 : decode cX3_addRiver 25 = .ok (.bipush (-4), 2) := by decide +kernel
theorem dX3_addRiver_27 : decode cX3_addRiver 27 = .ok (.ireturn, 1) := by decide +kernel
theorem dX3_addRiver_28 : decode cX3_addRiver 28 = .ok (.iload_n 3, 1) := by decide +kernel
theorem dX3_addRiver_29 : decode cX3_addRiver 29 = .ok (.sipush 999, 3) := by decide +kernel
theorem dX3_addRiver_32 : decode cX3_addRiver 32 = .ok (.if_icmp .gt 13, 3) := by decide +kernel
theorem dX3_addRiver_35 : decode cX3_addRiver 35 = .ok (.aload_n 0, 1) := by decide +kernel
theorem dX3_addRiver_36 : decode cX3_addRiver 36 = .ok (.getfield 28, 3) := by decide +kernel
theorem dX3_addRiver_39 : decode cX3_addRiver 39 = .ok (.invokevirtual 100, 3) := by decide +kernel
theorem dX3_addRiver_42 : decode cX3_addRiver 42 = .ok (.ifCond .eq 6, 3) := by decide +kernel
theorem dX3_addRiver_45 : decode cX3_addRiver 45 = .ok (.bipush (-6), 2) := by decide +kernel
theorem dX3_addRiver_47 : decode cX3_addRiver 47 = .ok (.ireturn, 1) := by decide +kernel
theorem dX3_addRiver_48 : decode cX3_addRiver 48 = .ok (.aload_n 0, 1) := by decide +kernel
theorem dX3_addRiver_49 : decode cX3_addRiver 49 = .ok (.getfield 28, 3) := by decide +kernel
theorem dX3_addRiver_52 : decode cX3_addRiver 52 = .ok (.iload_n 1, 1) := by decide +kernel
theorem dX3_addRiver_53 : decode cX3_addRiver 53 = .ok (.iload_n 2, 1) := by decide +kernel
theorem dX3_addRiver_54 : decode cX3_addRiver 54 = .ok (.iload_n 3, 1) := by decide +kernel
theorem dX3_addRiver_55 : decode cX3_addRiver 55 = .ok (.invokevirtual 101, 3) := by decide +kernel
theorem dX3_addRiver_58 : decode cX3_addRiver 58 = .ok (.ireturn, 1) := by decide +kernel
theorem dX3_changeMoon_0 : decode cX3_changeMoon 0 = .ok (.aload_n 0, 1) := by decide +kernel
theorem dX3_changeMoon_1 : decode cX3_changeMoon 1 = .ok (.iload_n 1, 1) := by decide +kernel
theorem dX3_changeMoon_2 : decode cX3_changeMoon 2 = .ok (.putfield 39, 3) := by decide +kernel
theorem dX3_changeMoon_5 : decode cX3_changeMoon 5 = .ok (.aload_n 0, 1) := by decide +kernel
theorem dX3_changeMoon_6 : decode cX3_changeMoon 6 = .ok (.iload_n 2, 1) := by decide +kernel
theorem dX3_changeMoon_7 : decode cX3_changeMoon 7 = .ok (.putfield 43, 3) := by decide +kernel
theorem dX3_changeMoon_10 : decode cX3_changeMoon 10 = .ok (.return_, 1) := by decide +kernel
theorem dX3_kindNow_0 : decode cX3_kindNow 0 = .ok (.aload_n 0, 1) := by decide +kernel
theorem dX3_kindNow_1 : decode cX3_kindNow 1 = .ok (.getfield 39, 3) := by decide +kernel
theorem dX3_kindNow_4 : decode cX3_kindNow 4 = .ok (.iconst 1, 1) := by decide +kernel
theorem dX3_kindNow_5 : decode cX3_kindNow 5 = .ok (.if_icmp .ge 7, 3) := by decide +kernel
theorem dX3_kindNow_8 : decode cX3_kindNow 8 = .ok (.iconst 0, 1) := by decide +kernel
theorem dX3_kindNow_9 : decode cX3_kindNow 9 = .ok (.goto 19, 3) := by decide +kernel
theorem dX3_kindNow_12 : decode cX3_kindNow 12 = .ok (.aload_n 0, 1) := by decide +kernel
theorem dX3_kindNow_13 : decode cX3_kindNow 13 = .ok (.getfield 43, 3) := by decide +kernel
theorem dX3_kindNow_16 : decode cX3_kindNow 16 = .ok (.aload_n 0, 1) := by decide +kernel
theorem dX3_kindNow_17 : decode cX3_kindNow 17 = .ok (.getfield 46, 3) := by decide +kernel
theorem dX3_kindNow_20 : decode cX3_kindNow 20 = .ok (.aload_n 0, 1) := by decide +kernel
theorem dX3_kindNow_21 : decode cX3_kindNow 21 = .ok (.getfield 39, 3) := by decide +kernel
theorem dX3_kindNow_24 : decode cX3_kindNow 24 = .ok (.irem, 1) := by decide +kernel
theorem dX3_kindNow_25 : decode cX3_kindNow 25 = .ok (.ishr, 1) := by decide +kernel
theorem dX3_kindNow_26 : decode cX3_kindNow 26 = .ok (.iconst 1, 1) := by decide +kernel
theorem dX3_kindNow_27 : decode cX3_kindNow 27 = .ok (.iand, 1) := by decide +kernel
theorem dX3_kindNow_28 : decode cX3_kindNow 28 = .ok (.ireturn, 1) := by decide +kernel
theorem dX3_goBy_0 : decode cX3_goBy 0 = .ok (.aload_n 0, 1) := by decide +kernel
theorem dX3_goBy_1 : decode cX3_goBy 1 = .ok (.invokevirtual 103, 3) := by decide +kernel
theorem dX3_goBy_4 : decode cX3_goBy 4 = .ok (.istore_n 2, 1) := by decide +kernel
theorem dX3_goBy_5 : decode cX3_goBy 5 = .ok (.iload_n 2, 1) := by decide +kernel
theorem dX3_goBy_6 : decode cX3_goBy 6 = .ok (.ifCond .ne 10, 3) := by decide +kernel
theorem dX3_goBy_9 : decode cX3_goBy 9 = .ok (.aload_n 0, 1) := by decide +kernel
theorem dX3_goBy_10 : decode cX3_goBy 10 = .ok (.getfield 12, 3) := by decide +kernel
theorem dX3_goBy_13 : decode cX3_goBy 13 = .ok (.invokevirtual 107, 3) := by decide +kernel
theorem dX3_goBy_16 : decode cX3_goBy 16 = .ok (.aload_n 0, 1) := by decide +kernel
theorem dX3_goBy_17 : decode cX3_goBy 17 = .ok (.iload_n 2, 1) := by decide +kernel
theorem dX3_goBy_18 : decode cX3_goBy 18 = .ok (.invokevirtual 110, 3) := by decide +kernel
theorem dX3_goBy_21 : decode cX3_goBy 21 = .ok (.aload_n 0, 1) := by decide +kernel
theorem dX3_goBy_22 : decode cX3_goBy 22 = .ok (.invokevirtual 114, 3) := by decide +kernel
theorem dX3_goBy_25 : decode cX3_goBy 25 = .ok (.aload_n 0, 1) := by decide +kernel
theorem dX3_goBy_26 : decode cX3_goBy 26 = .ok (.getfield 12, 3) := by decide +kernel
theorem dX3_goBy_29 : decode cX3_goBy 29 = .ok (.invokevirtual 117, 3) := by decide +kernel
theorem dX3_goBy_32 : decode cX3_goBy 32 = .ok (.aload_n 0, 1) := by decide +kernel
theorem dX3_goBy_33 : decode cX3_goBy 33 = .ok (.iload_n 1, 1) := by decide +kernel
theorem dX3_goBy_34 : decode cX3_goBy 34 = .ok (.iconst (-1), 1) := by decide +kernel
theorem dX3_goBy_35 : decode cX3_goBy 35 = .ok (.if_icmp .ne 11, 3) := by decide +kernel
theorem dX3_goBy_38 : decode cX3_goBy 38 = .ok (.aload_n 0, 1) := by decide +kernel
theorem dX3_goBy_39 : decode cX3_goBy 39 = .ok (.iload_n 2, 1) := by decide +kernel
theorem dX3_goBy_40 : decode cX3_goBy 40 = .ok (.invokevirtual 120, 3) := by decide +kernel
theorem dX3_goBy_43 : decode cX3_goBy 43 = .ok (.goto 4, 3) := by decide +kernel
theorem dX3_goBy_46 : decode cX3_goBy 46 = .ok (.iload_n 1, 1) := by decide +kernel
theorem dX3_goBy_47 : decode cX3_goBy 47 = .ok (.invokevirtual 124, 3) := by decide +kernel
theorem dX3_goBy_50 : decode cX3_goBy 50 = .ok (.aload_n 0, 1) := by decide +kernel
theorem dX3_goBy_51 : decode cX3_goBy 51 = .ok (.dup, 1) := by decide +kernel
theorem dX3_goBy_52 : decode cX3_goBy 52 = .ok (.getfield 46, 3) := by decide +kernel
theorem dX3_goBy_55 : decode cX3_goBy 55 = .ok (.iconst 1, 1) := by decide +kernel
theorem dX3_goBy_56 : decode cX3_goBy 56 = .ok (.iadd, 1) := by decide +kernel
theorem dX3_goBy_57 : decode cX3_goBy 57 = .ok (.putfield 46, 3) := by decide +kernel
theorem dX3_goBy_60 : decode cX3_goBy 60 = .ok (.return_, 1) := by decide +kernel
theorem dX3_goOn_0 : decode cX3_goOn 0 = .ok (.iconst 0, 1) := by decide +kernel
theorem dX3_goOn_1 : decode cX3_goOn 1 = .ok (.istore_n 3, 1) := by decide +kernel
theorem dX3_goOn_2 : decode cX3_goOn 2 = .ok (.iload_n 3, 1) := by decide +kernel
theorem dX3_goOn_3 : decode cX3_goOn 3 = .ok (.iload_n 1, 1) := by decide +kernel
theorem dX3_goOn_4 : decode cX3_goOn 4 = .ok (.if_icmp .ge 14, 3) := by decide +kernel
theorem dX3_goOn_7 : decode cX3_goOn 7 = .ok (.aload_n 0, 1) := by decide +kernel
theorem dX3_goOn_8 : decode cX3_goOn 8 = .ok (.iload_n 2, 1) := by decide +kernel
theorem dX3_goOn_9 : decode cX3_goOn 9 = .ok (.invokevirtual 127, 3) := by decide +kernel
theorem dX3_goOn_12 : decode cX3_goOn 12 = .ok (.iinc 3 1, 3) := by decide +kernel
theorem dX3_goOn_15 : decode cX3_goOn 15 = .ok (.goto (-13), 3) := by decide +kernel
theorem dX3_goOn_18 : decode cX3_goOn 18 = .ok (.return_, 1) := by decide +kernel
theorem dX3_carry_0 : decode cX3_carry 0 = .ok (.aload_n 0, 1) := by decide +kernel
theorem dX3_carry_1 : decode cX3_carry 1 = .ok (.getfield 12, 3) := by decide +kernel
theorem dX3_carry_4 : decode cX3_carry 4 = .ok (.getfield 130, 3) := by decide +kernel
theorem dX3_carry_7 : decode cX3_carry 7 = .ok (.iconst 0, 1) := by decide +kernel
theorem dX3_carry_8 : decode cX3_carry 8 = .ok (.aload_n 0, 1) := by decide +kernel
theorem dX3_carry_9 : decode cX3_carry 9 = .ok (.getfield 61, 3) := by decide +kernel
theorem dX3_carry_12 : decode cX3_carry 12 = .ok (.iconst 0, 1) := by decide +kernel
theorem dX3_carry_13 : decode cX3_carry 13 = .ok (.aload_n 0, 1) := by decide +kernel
theorem dX3_carry_14 : decode cX3_carry 14 = .ok (.getfield 61, 3) := by decide +kernel
theorem dX3_carry_17 : decode cX3_carry 17 = .ok (.arraylength, 1) := by decide +kernel
theorem dX3_carry_18 : decode cX3_carry 18 = .ok (.invokestatic 133, 3) := by decide +kernel
theorem dX3_carry_21 : decode cX3_carry 21 = .ok (.iconst 0, 1) := by decide +kernel
theorem dX3_carry_22 : decode cX3_carry 22 = .ok (.istore_n 2, 1) := by decide +kernel
theorem dX3_carry_23 : decode cX3_carry 23 = .ok (.iload_n 2, 1) := by decide +kernel
theorem dX3_carry_24 : decode cX3_carry 24 = .ok (.aload_n 0, 1) := by decide +kernel
theorem dX3_carry_25 : decode cX3_carry 25 = .ok (.getfield 21, 3) := by decide +kernel
theorem dX3_carry_28 : decode cX3_carry 28 = .ok (.getfield 139, 3) := by decide +kernel
theorem dX3_carry_31 : decode cX3_carry 31 = .ok (.if_icmp .ge 110, 3) := by decide +kernel
theorem dX3_carry_34 : decode cX3_carry 34 = .ok (.aload_n 0, 1) := by decide +kernel
theorem dX3_carry_35 : decode cX3_carry 35 = .ok (.getfield 21, 3) := by decide +kernel
theorem dX3_carry_38 : decode cX3_carry 38 = .ok (.getfield 142, 3) := by decide +kernel
theorem dX3_carry_41 : decode cX3_carry 41 = .ok (.iload_n 2, 1) := by decide +kernel
theorem dX3_carry_42 : decode cX3_carry 42 = .ok (.iaload, 1) := by decide +kernel
theorem dX3_carry_43 : decode cX3_carry 43 = .ok (.iload_n 1, 1) := by decide +kernel
theorem dX3_carry_44 : decode cX3_carry 44 = .ok (.if_icmp .ne 91, 3) := by decide +kernel
theorem dX3_carry_47 : decode cX3_carry 47 = .ok (.aload_n 0, 1) := by decide +kernel
theorem dX3_carry_48 : decode cX3_carry 48 = .ok (.getfield 21, 3) := by decide +kernel
theorem dX3_carry_51 : decode cX3_carry 51 = .ok (.iload_n 2, 1) := by decide +kernel
theorem dX3_carry_52 : decode cX3_carry 52 = .ok (.invokevirtual 145, 3) := by decide +kernel
theorem dX3_carry_55 : decode cX3_carry 55 = .ok (.ifCond .ne 80, 3) := by decide +kernel
theorem dX3_carry_58 : decode cX3_carry 58 = .ok (.aload_n 0, 1) := by decide +kernel
theorem dX3_carry_59 : decode cX3_carry 59 = .ok (.getfield 21, 3) := by decide +kernel
theorem dX3_carry_62 : decode cX3_carry 62 = .ok (.getfield 148, 3) := by decide +kernel
theorem dX3_carry_65 : decode cX3_carry 65 = .ok (.iload_n 2, 1) := by decide +kernel
theorem dX3_carry_66 : decode cX3_carry 66 = .ok (.iaload, 1) := by decide +kernel
theorem dX3_carry_67 : decode cX3_carry 67 = .ok (.istore_n 3, 1) := by decide +kernel
theorem dX3_carry_68 : decode cX3_carry 68 = .ok (.aload_n 0, 1) := by decide +kernel
theorem dX3_carry_69 : decode cX3_carry 69 = .ok (.getfield 21, 3) := by decide +kernel
theorem dX3_carry_72 : decode cX3_carry 72 = .ok (.getfield 151, 3) := by decide +kernel
theorem dX3_carry_75 : decode cX3_carry 75 = .ok (.iload_n 2, 1) := by decide +kernel
theorem dX3_carry_76 : decode cX3_carry 76 = .ok (.iaload, 1) := by decide +kernel
theorem dX3_carry_77 : decode cX3_carry 77 = .ok (.iload_n 3, 1) := by decide +kernel
theorem dX3_carry_78 : decode cX3_carry 78 = .ok (.invokestatic 154, 3) := by decide +kernel
theorem dX3_carry_81 : decode cX3_carry 81 = .ok (.istore 4, 2) := by decide +kernel
theorem dX3_carry_83 : decode cX3_carry 83 = .ok (.aload_n 0, 1) := by decide +kernel
theorem dX3_carry_84 : decode cX3_carry 84 = .ok (.getfield 61, 3) := by decide +kernel
theorem dX3_carry_87 : decode cX3_carry 87 = .ok (.iload 4, 2) := by decide +kernel
theorem dX3_carry_89 : decode cX3_carry 89 = .ok (.iaload, 1) := by decide +kernel
theorem dX3_carry_90 : decode cX3_carry 90 = .ok (.aload_n 0, 1) := by decide +kernel
theorem dX3_carry_91 : decode cX3_carry 91 = .ok (.getfield 21, 3) := by decide +kernel
theorem dX3_carry_94 : decode cX3_carry 94 = .ok (.getfield 158, 3) := by decide +kernel
theorem dX3_carry_97 : decode cX3_carry 97 = .ok (.iload_n 2, 1) := by decide +kernel
theorem dX3_carry_98 : decode cX3_carry 98 = .ok (.iaload, 1) := by decide +kernel
theorem dX3_carry_99 : decode cX3_carry 99 = .ok (.invokestatic 161, 3) := by decide +kernel
theorem dX3_carry_102 : decode cX3_carry 102 = .ok (.istore 5, 2) := by decide +kernel
theorem dX3_carry_104 : decode cX3_carry 104 = .ok (.aload_n 0, 1) := by decide +kernel
theorem dX3_carry_105 : decode cX3_carry 105 = .ok (.getfield 12, 3) := by decide +kernel
theorem dX3_carry_108 : decode cX3_carry 108 = .ok (.getfield 130, 3) := by decide +kernel
theorem dX3_carry_111 : decode cX3_carry 111 = .ok (.iload 4, 2) := by decide +kernel
theorem dX3_carry_113 : decode cX3_carry 113 = .ok (.dup2, 1) := by decide +kernel
theorem dX3_carry_114 : decode cX3_carry 114 = .ok (.iaload, 1) := by decide +kernel
theorem dX3_carry_115 : decode cX3_carry 115 = .ok (.iload 5, 2) := by decide +kernel
theorem dX3_carry_117 : decode cX3_carry 117 = .ok (.isub, 1) := by decide +kernel
theorem dX3_carry_118 : decode cX3_carry 118 = .ok (.iastore, 1) := by decide +kernel
theorem dX3_carry_119 : decode cX3_carry 119 = .ok (.aload_n 0, 1) := by decide +kernel
theorem dX3_carry_120 : decode cX3_carry 120 = .ok (.aload_n 0, 1) := by decide +kernel
theorem dX3_carry_121 : decode cX3_carry 121 = .ok (.getfield 21, 3) := by decide +kernel
theorem dX3_carry_124 : decode cX3_carry 124 = .ok (.getfield 164, 3) := by decide +kernel
theorem dX3_carry_127 : decode cX3_carry 127 = .ok (.iload_n 2, 1) := by decide +kernel
theorem dX3_carry_128 : decode cX3_carry 128 = .ok (.iaload, 1) := by decide +kernel
theorem dX3_carry_129 : decode cX3_carry 129 = .ok (.iload_n 3, 1) := by decide +kernel
theorem dX3_carry_130 : decode cX3_carry 130 = .ok (.iload 5, 2) := by decide +kernel
theorem dX3_carry_132 : decode cX3_carry 132 = .ok (.invokevirtual 167, 3) := by decide +kernel
theorem dX3_carry_135 : decode cX3_carry 135 = .ok (.iinc 2 1, 3) := by decide +kernel
theorem dX3_carry_138 : decode cX3_carry 138 = .ok (.goto (-115), 3) := by decide +kernel
theorem dX3_carry_141 : decode cX3_carry 141 = .ok (.return_, 1) := by decide +kernel
theorem dX3_bring_0 : decode cX3_bring 0 = .ok (.iconst 0, 1) := by decide +kernel
theorem dX3_bring_1 : decode cX3_bring 1 = .ok (.istore_n 1, 1) := by decide +kernel
theorem dX3_bring_2 : decode cX3_bring 2 = .ok (.iload_n 1, 1) := by decide +kernel
theorem dX3_bring_3 : decode cX3_bring 3 = .ok (.aload_n 0, 1) := by decide +kernel
theorem dX3_bring_4 : decode cX3_bring 4 = .ok (.getfield 28, 3) := by decide +kernel
theorem dX3_bring_7 : decode cX3_bring 7 = .ok (.getfield 171, 3) := by decide +kernel
theorem dX3_bring_10 : decode cX3_bring 10 = .ok (.if_icmp .ge 50, 3) := by decide +kernel
theorem dX3_bring_13 : decode cX3_bring 13 = .ok (.aload_n 0, 1) := by decide +kernel
theorem dX3_bring_14 : decode cX3_bring 14 = .ok (.getfield 12, 3) := by decide +kernel
theorem dX3_bring_17 : decode cX3_bring 17 = .ok (.getfield 130, 3) := by decide +kernel
theorem dX3_bring_20 : decode cX3_bring 20 = .ok (.aload_n 0, 1) := by decide +kernel
theorem dX3_bring_21 : decode cX3_bring 21 = .ok (.getfield 28, 3) := by decide +kernel
theorem dX3_bring_24 : decode cX3_bring 24 = .ok (.getfield 172, 3) := by decide +kernel
theorem dX3_bring_27 : decode cX3_bring 27 = .ok (.iload_n 1, 1) := by decide +kernel
theorem dX3_bring_28 : decode cX3_bring 28 = .ok (.iaload, 1) := by decide +kernel
theorem dX3_bring_29 : decode cX3_bring 29 = .ok (.aload_n 0, 1) := by decide +kernel
theorem dX3_bring_30 : decode cX3_bring 30 = .ok (.getfield 28, 3) := by decide +kernel
theorem dX3_bring_33 : decode cX3_bring 33 = .ok (.getfield 175, 3) := by decide +kernel
theorem dX3_bring_36 : decode cX3_bring 36 = .ok (.iload_n 1, 1) := by decide +kernel
theorem dX3_bring_37 : decode cX3_bring 37 = .ok (.iaload, 1) := by decide +kernel
theorem dX3_bring_38 : decode cX3_bring 38 = .ok (.invokestatic 154, 3) := by decide +kernel
theorem dX3_bring_41 : decode cX3_bring 41 = .ok (.dup2, 1) := by decide +kernel
theorem dX3_bring_42 : decode cX3_bring 42 = .ok (.iaload, 1) := by decide +kernel
theorem dX3_bring_43 : decode cX3_bring 43 = .ok (.aload_n 0, 1) := by decide +kernel
theorem dX3_bring_44 : decode cX3_bring 44 = .ok (.getfield 28, 3) := by decide +kernel
theorem dX3_bring_47 : decode cX3_bring 47 = .ok (.getfield 176, 3) := by decide +kernel
theorem dX3_bring_50 : decode cX3_bring 50 = .ok (.iload_n 1, 1) := by decide +kernel
theorem dX3_bring_51 : decode cX3_bring 51 = .ok (.iaload, 1) := by decide +kernel
theorem dX3_bring_52 : decode cX3_bring 52 = .ok (.iadd, 1) := by decide +kernel
theorem dX3_bring_53 : decode cX3_bring 53 = .ok (.iastore, 1) := by decide +kernel
theorem dX3_bring_54 : decode cX3_bring 54 = .ok (.iinc 1 1, 3) := by decide +kernel
theorem dX3_bring_57 : decode cX3_bring 57 = .ok (.goto (-55), 3) := by decide +kernel
theorem dX3_bring_60 : decode cX3_bring 60 = .ok (.return_, 1) := by decide +kernel
theorem dX3_drop_0 : decode cX3_drop 0 = .ok (.aload_n 0, 1) := by decide +kernel
theorem dX3_drop_1 : decode cX3_drop 1 = .ok (.getfield 12, 3) := by decide +kernel
theorem dX3_drop_4 : decode cX3_drop 4 = .ok (.iload_n 1, 1) := by decide +kernel
theorem dX3_drop_5 : decode cX3_drop 5 = .ok (.invokevirtual 78, 3) := by decide +kernel
theorem dX3_drop_8 : decode cX3_drop 8 = .ok (.ifCond .eq 23, 3) := by decide +kernel
theorem dX3_drop_11 : decode cX3_drop 11 = .ok (.aload_n 0, 1) := by decide +kernel
theorem dX3_drop_12 : decode cX3_drop 12 = .ok (.getfield 12, 3) := by decide +kernel
theorem dX3_drop_15 : decode cX3_drop 15 = .ok (.getfield 130, 3) := by decide +kernel
theorem dX3_drop_18 : decode cX3_drop 18 = .ok (.iload_n 1, 1) := by decide +kernel
theorem dX3_drop_19 : decode cX3_drop 19 = .ok (.iload_n 2, 1) := by decide +kernel
theorem dX3_drop_20 : decode cX3_drop 20 = .ok (.invokestatic 154, 3) := by decide +kernel
theorem dX3_drop_23 : decode cX3_drop 23 = .ok (.dup2, 1) := by decide +kernel
theorem dX3_drop_24 : decode cX3_drop 24 = .ok (.iaload, 1) := by decide +kernel
theorem dX3_drop_25 : decode cX3_drop 25 = .ok (.iload_n 3, 1) := by decide +kernel
theorem dX3_drop_26 : decode cX3_drop 26 = .ok (.iadd, 1) := by decide +kernel
theorem dX3_drop_27 : decode cX3_drop 27 = .ok (.iastore, 1) := by decide +kernel
theorem dX3_drop_28 : decode cX3_drop 28 = .ok (.goto 13, 3) := by decide +kernel
theorem dX3_drop_31 : decode cX3_drop 31 = .ok (.aload_n 0, 1) := by decide +kernel
theorem dX3_drop_32 : decode cX3_drop 32 = .ok (.dup, 1) := by decide +kernel
theorem dX3_drop_33 : decode cX3_drop 33 = .ok (.getfield 49, 3) := by decide +kernel
theorem dX3_drop_36 : decode cX3_drop 36 = .ok (.iload_n 3, 1) := by decide +kernel
theorem dX3_drop_37 : decode cX3_drop 37 = .ok (.iadd, 1) := by decide +kernel
theorem dX3_drop_38 : decode cX3_drop 38 = .ok (.putfield 49, 3) := by decide +kernel
theorem dX3_drop_41 : decode cX3_drop 41 = .ok (.return_, 1) := by decide +kernel
theorem dX3_plannedCell_0 : decode cX3_plannedCell 0 = .ok (.aload_n 0, 1) := by decide +kernel
theorem dX3_plannedCell_1 : decode cX3_plannedCell 1 = .ok (.getfield 35, 3) := by decide +kernel
theorem dX3_plannedCell_4 : decode cX3_plannedCell 4 = .ok (.getfield 179, 3) := by decide +kernel
theorem dX3_plannedCell_7 : decode cX3_plannedCell 7 = .ok (.tableswitch 92 0 3 #[29, 44, 69, 77], 29) := by decide +kernel
theorem dX3_plannedCell_36 : decode cX3_plannedCell 36 = .ok (.aload_n 0, 1) := by decide +kernel
theorem dX3_plannedCell_37 : decode cX3_plannedCell 37 = .ok (.getfield 12, 3) := by decide +kernel
theorem dX3_plannedCell_40 : decode cX3_plannedCell 40 = .ok (.aload_n 0, 1) := by decide +kernel
theorem dX3_plannedCell_41 : decode cX3_plannedCell 41 = .ok (.getfield 35, 3) := by decide +kernel
theorem dX3_plannedCell_44 : decode cX3_plannedCell 44 = .ok (.getfield 182, 3) := by decide +kernel
theorem dX3_plannedCell_47 : decode cX3_plannedCell 47 = .ok (.invokevirtual 184, 3) := by decide +kernel
theorem dX3_plannedCell_50 : decode cX3_plannedCell 50 = .ok (.ireturn, 1) := by decide +kernel
theorem dX3_plannedCell_51 : decode cX3_plannedCell 51 = .ok (.iload_n 1, 1) := by decide +kernel
theorem dX3_plannedCell_52 : decode cX3_plannedCell 52 = .ok (.iconst 1, 1) := by decide +kernel
theorem dX3_plannedCell_53 : decode cX3_plannedCell 53 = .ok (.if_icmp .ne 20, 3) := by decide +kernel
theorem dX3_plannedCell_56 : decode cX3_plannedCell 56 = .ok (.aload_n 0, 1) := by decide +kernel
theorem dX3_plannedCell_57 : decode cX3_plannedCell 57 = .ok (.getfield 12, 3) := by decide +kernel
theorem dX3_plannedCell_60 : decode cX3_plannedCell 60 = .ok (.aload_n 0, 1) := by decide +kernel
theorem dX3_plannedCell_61 : decode cX3_plannedCell 61 = .ok (.getfield 35, 3) := by decide +kernel
theorem dX3_plannedCell_64 : decode cX3_plannedCell 64 = .ok (.getfield 182, 3) := by decide +kernel
theorem dX3_plannedCell_67 : decode cX3_plannedCell 67 = .ok (.invokevirtual 184, 3) := by decide +kernel
theorem dX3_plannedCell_70 : decode cX3_plannedCell 70 = .ok (.goto 5, 3) := by decide +kernel
theorem dX3_plannedCell_73 : decode cX3_plannedCell 73 = .ok (.bipush (-9), 2) := by decide +kernel
theorem dX3_plannedCell_75 : decode cX3_plannedCell 75 = .ok (.ireturn, 1) := by decide +kernel
theorem dX3_plannedCell_76 : decode cX3_plannedCell 76 = .ok (.aload_n 0, 1) := by decide +kernel
theorem dX3_plannedCell_77 : decode cX3_plannedCell 77 = .ok (.getfield 35, 3) := by decide +kernel
theorem dX3_plannedCell_80 : decode cX3_plannedCell 80 = .ok (.getfield 187, 3) := by decide +kernel
theorem dX3_plannedCell_83 : decode cX3_plannedCell 83 = .ok (.ireturn, 1) := by decide +kernel
theorem dX3_plannedCell_84 : decode cX3_plannedCell 84 = .ok (.aload_n 0, 1) := by decide +kernel
theorem dX3_plannedCell_85 : decode cX3_plannedCell 85 = .ok (.getfield 12, 3) := by decide +kernel
theorem dX3_plannedCell_88 : decode cX3_plannedCell 88 = .ok (.aload_n 0, 1) := by decide +kernel
theorem dX3_plannedCell_89 : decode cX3_plannedCell 89 = .ok (.getfield 35, 3) := by decide +kernel
theorem dX3_plannedCell_92 : decode cX3_plannedCell 92 = .ok (.getfield 182, 3) := by decide +kernel
theorem dX3_plannedCell_95 : decode cX3_plannedCell 95 = .ok (.invokevirtual 190, 3) := by decide +kernel
theorem dX3_plannedCell_98 : decode cX3_plannedCell 98 = .ok (.ireturn, 1) := by decide +kernel
theorem dX3_plannedCell_99 : decode cX3_plannedCell 99 = .ok (.iload_n 1, 1) := by decide +kernel
theorem dX3_plannedCell_100 : decode cX3_plannedCell 100 = .ok (.iconst 1, 1) := by decide +kernel
theorem dX3_plannedCell_101 : decode cX3_plannedCell 101 = .ok (.if_icmp .ne 20, 3) := by decide +kernel
theorem dX3_plannedCell_104 : decode cX3_plannedCell 104 = .ok (.aload_n 0, 1) := by decide +kernel
theorem dX3_plannedCell_105 : decode cX3_plannedCell 105 = .ok (.getfield 12, 3) := by decide +kernel
theorem dX3_plannedCell_108 : decode cX3_plannedCell 108 = .ok (.aload_n 0, 1) := by decide +kernel
theorem dX3_plannedCell_109 : decode cX3_plannedCell 109 = .ok (.getfield 35, 3) := by decide +kernel
theorem dX3_plannedCell_112 : decode cX3_plannedCell 112 = .ok (.getfield 182, 3) := by decide +kernel
theorem dX3_plannedCell_115 : decode cX3_plannedCell 115 = .ok (.invokevirtual 184, 3) := by decide +kernel
theorem dX3_plannedCell_118 : decode cX3_plannedCell 118 = .ok (.goto 10, 3) := by decide +kernel
theorem dX3_plannedCell_121 : decode cX3_plannedCell 121 = .ok (.aload_n 0, 1) := by decide +kernel
theorem dX3_plannedCell_122 : decode cX3_plannedCell 122 = .ok (.getfield 35, 3) := by decide +kernel
theorem dX3_plannedCell_125 : decode cX3_plannedCell 125 = .ok (.getfield 187, 3) := by decide +kernel
theorem dX3_plannedCell_128 : decode cX3_plannedCell 128 = .ok (.ireturn, 1) := by decide +kernel
theorem dX3_dredge_0 : decode cX3_dredge 0 = .ok (.aload_n 0, 1) := by decide +kernel
theorem dX3_dredge_1 : decode cX3_dredge 1 = .ok (.iconst 0, 1) := by decide +kernel
theorem dX3_dredge_2 : decode cX3_dredge 2 = .ok (.putfield 55, 3) := by decide +kernel
theorem dX3_dredge_5 : decode cX3_dredge 5 = .ok (.aload_n 0, 1) := by decide +kernel
theorem dX3_dredge_6 : decode cX3_dredge 6 = .ok (.iconst 0, 1) := by decide +kernel
theorem dX3_dredge_7 : decode cX3_dredge 7 = .ok (.putfield 58, 3) := by decide +kernel
theorem dX3_dredge_10 : decode cX3_dredge 10 = .ok (.aload_n 0, 1) := by decide +kernel
theorem dX3_dredge_11 : decode cX3_dredge 11 = .ok (.getfield 12, 3) := by decide +kernel
theorem dX3_dredge_14 : decode cX3_dredge 14 = .ok (.iload_n 1, 1) := by decide +kernel
theorem dX3_dredge_15 : decode cX3_dredge 15 = .ok (.invokevirtual 78, 3) := by decide +kernel
theorem dX3_dredge_18 : decode cX3_dredge 18 = .ok (.ifCond .eq 39, 3) := by decide +kernel
theorem dX3_dredge_21 : decode cX3_dredge 21 = .ok (.iload_n 1, 1) := by decide +kernel
theorem dX3_dredge_22 : decode cX3_dredge 22 = .ok (.aload_n 0, 1) := by decide +kernel
theorem dX3_dredge_23 : decode cX3_dredge 23 = .ok (.getfield 35, 3) := by decide +kernel
theorem dX3_dredge_26 : decode cX3_dredge 26 = .ok (.getfield 182, 3) := by decide +kernel
theorem dX3_dredge_29 : decode cX3_dredge 29 = .ok (.if_icmp .eq 28, 3) := by decide +kernel
theorem dX3_dredge_32 : decode cX3_dredge 32 = .ok (.aload_n 0, 1) := by decide +kernel
theorem dX3_dredge_33 : decode cX3_dredge 33 = .ok (.iload_n 1, 1) := by decide +kernel
theorem dX3_dredge_34 : decode cX3_dredge 34 = .ok (.iconst 1, 1) := by decide +kernel
theorem dX3_dredge_35 : decode cX3_dredge 35 = .ok (.invokevirtual 193, 3) := by decide +kernel
theorem dX3_dredge_38 : decode cX3_dredge 38 = .ok (.aload_n 0, 1) := by decide +kernel
theorem dX3_dredge_39 : decode cX3_dredge 39 = .ok (.iload_n 1, 1) := by decide +kernel
theorem dX3_dredge_40 : decode cX3_dredge 40 = .ok (.iconst 0, 1) := by decide +kernel
theorem dX3_dredge_41 : decode cX3_dredge 41 = .ok (.invokevirtual 193, 3) := by decide +kernel
theorem dX3_dredge_44 : decode cX3_dredge 44 = .ok (.aload_n 0, 1) := by decide +kernel
theorem dX3_dredge_45 : decode cX3_dredge 45 = .ok (.dup, 1) := by decide +kernel
theorem dX3_dredge_46 : decode cX3_dredge 46 = .ok (.getfield 52, 3) := by decide +kernel
theorem dX3_dredge_49 : decode cX3_dredge 49 = .ok (.aload_n 0, 1) := by decide +kernel
theorem dX3_dredge_50 : decode cX3_dredge 50 = .ok (.getfield 55, 3) := by decide +kernel
theorem dX3_dredge_53 : decode cX3_dredge 53 = .ok (.iadd, 1) := by decide +kernel
theorem dX3_dredge_54 : decode cX3_dredge 54 = .ok (.putfield 52, 3) := by decide +kernel
theorem dX3_dredge_57 : decode cX3_dredge 57 = .ok (.return_, 1) := by decide +kernel
theorem dX3_dredgeStuff_0 : decode cX3_dredgeStuff 0 = .ok (.iload_n 1, 1) := by decide +kernel
theorem dX3_dredgeStuff_1 : decode cX3_dredgeStuff 1 = .ok (.iload_n 2, 1) := by decide +kernel
theorem dX3_dredgeStuff_2 : decode cX3_dredgeStuff 2 = .ok (.invokestatic 154, 3) := by decide +kernel
theorem dX3_dredgeStuff_5 : decode cX3_dredgeStuff 5 = .ok (.istore_n 3, 1) := by decide +kernel
theorem dX3_dredgeStuff_6 : decode cX3_dredgeStuff 6 = .ok (.aload_n 0, 1) := by decide +kernel
theorem dX3_dredgeStuff_7 : decode cX3_dredgeStuff 7 = .ok (.getfield 35, 3) := by decide +kernel
theorem dX3_dredgeStuff_10 : decode cX3_dredgeStuff 10 = .ok (.getfield 197, 3) := by decide +kernel
theorem dX3_dredgeStuff_13 : decode cX3_dredgeStuff 13 = .ok (.aload_n 0, 1) := by decide +kernel
theorem dX3_dredgeStuff_14 : decode cX3_dredgeStuff 14 = .ok (.getfield 55, 3) := by decide +kernel
theorem dX3_dredgeStuff_17 : decode cX3_dredgeStuff 17 = .ok (.isub, 1) := by decide +kernel
theorem dX3_dredgeStuff_18 : decode cX3_dredgeStuff 18 = .ok (.aload_n 0, 1) := by decide +kernel
theorem dX3_dredgeStuff_19 : decode cX3_dredgeStuff 19 = .ok (.getfield 12, 3) := by decide +kernel
theorem dX3_dredgeStuff_22 : decode cX3_dredgeStuff 22 = .ok (.getfield 200, 3) := by decide +kernel
theorem dX3_dredgeStuff_25 : decode cX3_dredgeStuff 25 = .ok (.iload_n 3, 1) := by decide +kernel
theorem dX3_dredgeStuff_26 : decode cX3_dredgeStuff 26 = .ok (.iaload, 1) := by decide +kernel
theorem dX3_dredgeStuff_27 : decode cX3_dredgeStuff 27 = .ok (.invokestatic 203, 3) := by decide +kernel
theorem dX3_dredgeStuff_30 : decode cX3_dredgeStuff 30 = .ok (.istore 4, 2) := by decide +kernel
theorem dX3_dredgeStuff_32 : decode cX3_dredgeStuff 32 = .ok (.aload_n 0, 1) := by decide +kernel
theorem dX3_dredgeStuff_33 : decode cX3_dredgeStuff 33 = .ok (.getfield 12, 3) := by decide +kernel
theorem dX3_dredgeStuff_36 : decode cX3_dredgeStuff 36 = .ok (.getfield 200, 3) := by decide +kernel
theorem dX3_dredgeStuff_39 : decode cX3_dredgeStuff 39 = .ok (.iload_n 3, 1) := by decide +kernel
theorem dX3_dredgeStuff_40 : decode cX3_dredgeStuff 40 = .ok (.dup2, 1) := by decide +kernel
theorem dX3_dredgeStuff_41 : decode cX3_dredgeStuff 41 = .ok (.iaload, 1) := by decide +kernel
theorem dX3_dredgeStuff_42 : decode cX3_dredgeStuff 42 = .ok (.iload 4, 2) := by decide +kernel
theorem dX3_dredgeStuff_44 : decode cX3_dredgeStuff 44 = .ok (.isub, 1) := by decide +kernel
theorem dX3_dredgeStuff_45 : decode cX3_dredgeStuff 45 = .ok (.iastore, 1) := by decide +kernel
theorem dX3_dredgeStuff_46 : decode cX3_dredgeStuff 46 = .ok (.aload_n 0, 1) := by decide +kernel
theorem dX3_dredgeStuff_47 : decode cX3_dredgeStuff 47 = .ok (.dup, 1) := by decide +kernel
theorem dX3_dredgeStuff_48 : decode cX3_dredgeStuff 48 = .ok (.getfield 55, 3) := by decide +kernel
theorem dX3_dredgeStuff_51 : decode cX3_dredgeStuff 51 = .ok (.iload 4, 2) := by decide +kernel
theorem dX3_dredgeStuff_53 : decode cX3_dredgeStuff 53 = .ok (.iadd, 1) := by decide +kernel
theorem dX3_dredgeStuff_54 : decode cX3_dredgeStuff 54 = .ok (.putfield 55, 3) := by decide +kernel
theorem dX3_dredgeStuff_57 : decode cX3_dredgeStuff 57 = .ok (.aload_n 0, 1) := by decide +kernel
theorem dX3_dredgeStuff_58 : decode cX3_dredgeStuff 58 = .ok (.getfield 12, 3) := by decide +kernel
theorem dX3_dredgeStuff_61 : decode cX3_dredgeStuff 61 = .ok (.aload_n 0, 1) := by decide +kernel
theorem dX3_dredgeStuff_62 : decode cX3_dredgeStuff 62 = .ok (.getfield 35, 3) := by decide +kernel
theorem dX3_dredgeStuff_65 : decode cX3_dredgeStuff 65 = .ok (.getfield 182, 3) := by decide +kernel
theorem dX3_dredgeStuff_68 : decode cX3_dredgeStuff 68 = .ok (.invokevirtual 78, 3) := by decide +kernel
theorem dX3_dredgeStuff_71 : decode cX3_dredgeStuff 71 = .ok (.ifCond .ne 14, 3) := by decide +kernel
theorem dX3_dredgeStuff_74 : decode cX3_dredgeStuff 74 = .ok (.aload_n 0, 1) := by decide +kernel
theorem dX3_dredgeStuff_75 : decode cX3_dredgeStuff 75 = .ok (.dup, 1) := by decide +kernel
theorem dX3_dredgeStuff_76 : decode cX3_dredgeStuff 76 = .ok (.getfield 58, 3) := by decide +kernel
theorem dX3_dredgeStuff_79 : decode cX3_dredgeStuff 79 = .ok (.iload 4, 2) := by decide +kernel
theorem dX3_dredgeStuff_81 : decode cX3_dredgeStuff 81 = .ok (.iadd, 1) := by decide +kernel
theorem dX3_dredgeStuff_82 : decode cX3_dredgeStuff 82 = .ok (.putfield 58, 3) := by decide +kernel
theorem dX3_dredgeStuff_85 : decode cX3_dredgeStuff 85 = .ok (.aload_n 0, 1) := by decide +kernel
theorem dX3_dredgeStuff_86 : decode cX3_dredgeStuff 86 = .ok (.aload_n 0, 1) := by decide +kernel
theorem dX3_dredgeStuff_87 : decode cX3_dredgeStuff 87 = .ok (.getfield 35, 3) := by decide +kernel
theorem dX3_dredgeStuff_90 : decode cX3_dredgeStuff 90 = .ok (.getfield 182, 3) := by decide +kernel
theorem dX3_dredgeStuff_93 : decode cX3_dredgeStuff 93 = .ok (.iload_n 2, 1) := by decide +kernel
theorem dX3_dredgeStuff_94 : decode cX3_dredgeStuff 94 = .ok (.iload 4, 2) := by decide +kernel
theorem dX3_dredgeStuff_96 : decode cX3_dredgeStuff 96 = .ok (.invokevirtual 167, 3) := by decide +kernel
theorem dX3_dredgeStuff_99 : decode cX3_dredgeStuff 99 = .ok (.return_, 1) := by decide +kernel
theorem dX3_tideCosts_0 : decode cX3_tideCosts 0 = .ok (.aload_n 0, 1) := by decide +kernel
theorem dX3_tideCosts_1 : decode cX3_tideCosts 1 = .ok (.getfield 12, 3) := by decide +kernel
theorem dX3_tideCosts_4 : decode cX3_tideCosts 4 = .ok (.invokevirtual 208, 3) := by decide +kernel
theorem dX3_tideCosts_7 : decode cX3_tideCosts 7 = .ok (.aload_n 0, 1) := by decide +kernel
theorem dX3_tideCosts_8 : decode cX3_tideCosts 8 = .ok (.getfield 55, 3) := by decide +kernel
theorem dX3_tideCosts_11 : decode cX3_tideCosts 11 = .ok (.i2l, 1) := by decide +kernel
theorem dX3_tideCosts_12 : decode cX3_tideCosts 12 = .ok (.aload_n 0, 1) := by decide +kernel
theorem dX3_tideCosts_13 : decode cX3_tideCosts 13 = .ok (.getfield 35, 3) := by decide +kernel
theorem dX3_tideCosts_16 : decode cX3_tideCosts 16 = .ok (.getfield 212, 3) := by decide +kernel
theorem dX3_tideCosts_19 : decode cX3_tideCosts 19 = .ok (.i2l, 1) := by decide +kernel
theorem dX3_tideCosts_20 : decode cX3_tideCosts 20 = .ok (.lmul, 1) := by decide +kernel
theorem dX3_tideCosts_21 : decode cX3_tideCosts 21 = .ok (.ladd, 1) := by decide +kernel
theorem dX3_tideCosts_22 : decode cX3_tideCosts 22 = .ok (.ldc2_w 215, 3) := by decide +kernel
theorem dX3_tideCosts_25 : decode cX3_tideCosts 25 = .ok (.aload_n 0, 1) := by decide +kernel
theorem dX3_tideCosts_26 : decode cX3_tideCosts 26 = .ok (.getfield 58, 3) := by decide +kernel
theorem dX3_tideCosts_29 : decode cX3_tideCosts 29 = .ok (.i2l, 1) := by decide +kernel
theorem dX3_tideCosts_30 : decode cX3_tideCosts 30 = .ok (.lmul, 1) := by decide +kernel
theorem dX3_tideCosts_31 : decode cX3_tideCosts 31 = .ok (.ladd, 1) := by decide +kernel
theorem dX3_tideCosts_32 : decode cX3_tideCosts 32 = .ok (.lreturn, 1) := by decide +kernel
theorem dX3_runCosts_0 : decode cX3_runCosts 0 = .ok (.lconst 0, 1) := by decide +kernel
theorem dX3_runCosts_1 : decode cX3_runCosts 1 = .ok (.lstore 4, 2) := by decide +kernel
theorem dX3_runCosts_3 : decode cX3_runCosts 3 = .ok (.iconst 0, 1) := by decide +kernel
theorem dX3_runCosts_4 : decode cX3_runCosts 4 = .ok (.istore 6, 2) := by decide +kernel
theorem dX3_runCosts_6 : decode cX3_runCosts 6 = .ok (.iload 6, 2) := by decide +kernel
theorem dX3_runCosts_8 : decode cX3_runCosts 8 = .ok (.iload_n 1, 1) := by decide +kernel
theorem dX3_runCosts_9 : decode cX3_runCosts 9 = .ok (.if_icmp .ge 30, 3) := by decide +kernel
theorem dX3_runCosts_12 : decode cX3_runCosts 12 = .ok (.lload 4, 2) := by decide +kernel
theorem dX3_runCosts_14 : decode cX3_runCosts 14 = .ok (.lload_n 2, 1) := by decide +kernel
theorem dX3_runCosts_15 : decode cX3_runCosts 15 = .ok (.lcmp, 1) := by decide +kernel
theorem dX3_runCosts_16 : decode cX3_runCosts 16 = .ok (.ifCond .ge 23, 3) := by decide +kernel
theorem dX3_runCosts_19 : decode cX3_runCosts 19 = .ok (.aload_n 0, 1) := by decide +kernel
theorem dX3_runCosts_20 : decode cX3_runCosts 20 = .ok (.iconst (-1), 1) := by decide +kernel
theorem dX3_runCosts_21 : decode cX3_runCosts 21 = .ok (.invokevirtual 127, 3) := by decide +kernel
theorem dX3_runCosts_24 : decode cX3_runCosts 24 = .ok (.lload 4, 2) := by decide +kernel
theorem dX3_runCosts_26 : decode cX3_runCosts 26 = .ok (.aload_n 0, 1) := by decide +kernel
theorem dX3_runCosts_27 : decode cX3_runCosts 27 = .ok (.invokevirtual 217, 3) := by decide +kernel
theorem dX3_runCosts_30 : decode cX3_runCosts 30 = .ok (.ladd, 1) := by decide +kernel
theorem dX3_runCosts_31 : decode cX3_runCosts 31 = .ok (.lstore 4, 2) := by decide +kernel
theorem dX3_runCosts_33 : decode cX3_runCosts 33 = .ok (.iinc 6 1, 3) := by decide +kernel
theorem dX3_runCosts_36 : decode cX3_runCosts 36 = .ok (.goto (-30), 3) := by decide +kernel
theorem dX3_runCosts_39 : decode cX3_runCosts 39 = .ok (.lload 4, 2) := by decide +kernel
theorem dX3_runCosts_41 : decode cX3_runCosts 41 = .ok (.lreturn, 1) := by decide +kernel
theorem dX3_firstLack_0 : decode cX3_firstLack 0 = .ok (.iconst 0, 1) := by decide +kernel
theorem dX3_firstLack_1 : decode cX3_firstLack 1 = .ok (.istore_n 3, 1) := by decide +kernel
theorem dX3_firstLack_2 : decode cX3_firstLack 2 = .ok (.iload_n 3, 1) := by decide +kernel
theorem dX3_firstLack_3 : decode cX3_firstLack 3 = .ok (.iload_n 1, 1) := by decide +kernel
theorem dX3_firstLack_4 : decode cX3_firstLack 4 = .ok (.if_icmp .ge 26, 3) := by decide +kernel
theorem dX3_firstLack_7 : decode cX3_firstLack 7 = .ok (.aload_n 0, 1) := by decide +kernel
theorem dX3_firstLack_8 : decode cX3_firstLack 8 = .ok (.iload_n 2, 1) := by decide +kernel
theorem dX3_firstLack_9 : decode cX3_firstLack 9 = .ok (.invokevirtual 127, 3) := by decide +kernel
theorem dX3_firstLack_12 : decode cX3_firstLack 12 = .ok (.aload_n 0, 1) := by decide +kernel
theorem dX3_firstLack_13 : decode cX3_firstLack 13 = .ok (.getfield 12, 3) := by decide +kernel
theorem dX3_firstLack_16 : decode cX3_firstLack 16 = .ok (.invokevirtual 220, 3) := by decide +kernel
theorem dX3_firstLack_19 : decode cX3_firstLack 19 = .ok (.ifCond .eq 5, 3) := by decide +kernel
theorem dX3_firstLack_22 : decode cX3_firstLack 22 = .ok (.iload_n 3, 1) := by decide +kernel
theorem dX3_firstLack_23 : decode cX3_firstLack 23 = .ok (.ireturn, 1) := by decide +kernel
theorem dX3_firstLack_24 : decode cX3_firstLack 24 = .ok (.iinc 3 1, 3) := by decide +kernel
theorem dX3_firstLack_27 : decode cX3_firstLack 27 = .ok (.goto (-25), 3) := by decide +kernel
theorem dX3_firstLack_30 : decode cX3_firstLack 30 = .ok (.bipush (-9), 2) := by decide +kernel
theorem dX3_firstLack_32 : decode cX3_firstLack 32 = .ok (.ireturn, 1) := by decide +kernel
theorem dX4_init_0 : decode cX4_init 0 = .ok (.aload_n 0, 1) := by decide +kernel
theorem dX4_init_1 : decode cX4_init 1 = .ok (.invokespecial 3, 3) := by decide +kernel
theorem dX4_init_4 : decode cX4_init 4 = .ok (.aload_n 0, 1) := by decide +kernel
theorem dX4_init_5 : decode cX4_init 5 = .ok (.iconst 0, 1) := by decide +kernel
theorem dX4_init_6 : decode cX4_init 6 = .ok (.putfield 9, 3) := by decide +kernel
theorem dX4_init_9 : decode cX4_init 9 = .ok (.aload_n 0, 1) := by decide +kernel
theorem dX4_init_10 : decode cX4_init 10 = .ok (.bipush 8, 2) := by decide +kernel
theorem dX4_init_12 : decode cX4_init 12 = .ok (.newarray .int, 2) := by decide +kernel
theorem dX4_init_14 : decode cX4_init 14 = .ok (.putfield 15, 3) := by decide +kernel
theorem dX4_init_17 : decode cX4_init 17 = .ok (.aload_n 0, 1) := by decide +kernel
theorem dX4_init_18 : decode cX4_init 18 = .ok (.bipush 8, 2) := by decide +kernel
theorem dX4_init_20 : decode cX4_init 20 = .ok (.newarray .int, 2) := by decide +kernel
theorem dX4_init_22 : decode cX4_init 22 = .ok (.putfield 19, 3) := by decide +kernel
theorem dX4_init_25 : decode cX4_init 25 = .ok (.aload_n 0, 1) := by decide +kernel
theorem dX4_init_26 : decode cX4_init 26 = .ok (.bipush 8, 2) := by decide +kernel
theorem dX4_init_28 : decode cX4_init 28 = .ok (.newarray .int, 2) := by decide +kernel
theorem dX4_init_30 : decode cX4_init 30 = .ok (.putfield 22, 3) := by decide +kernel
theorem dX4_init_33 : decode cX4_init 33 = .ok (.return_, 1) := by decide +kernel
theorem dX4_become_0 : decode cX4_become 0 = .ok (.aload_n 0, 1) := by decide +kernel
theorem dX4_become_1 : decode cX4_become 1 = .ok (.aload_n 1, 1) := by decide +kernel
theorem dX4_become_2 : decode cX4_become 2 = .ok (.getfield 9, 3) := by decide +kernel
theorem dX4_become_5 : decode cX4_become 5 = .ok (.putfield 9, 3) := by decide +kernel
theorem dX4_become_8 : decode cX4_become 8 = .ok (.aload_n 1, 1) := by decide +kernel
theorem dX4_become_9 : decode cX4_become 9 = .ok (.getfield 15, 3) := by decide +kernel
theorem dX4_become_12 : decode cX4_become 12 = .ok (.iconst 0, 1) := by decide +kernel
theorem dX4_become_13 : decode cX4_become 13 = .ok (.aload_n 0, 1) := by decide +kernel
theorem dX4_become_14 : decode cX4_become 14 = .ok (.getfield 15, 3) := by decide +kernel
theorem dX4_become_17 : decode cX4_become 17 = .ok (.iconst 0, 1) := by decide +kernel
theorem dX4_become_18 : decode cX4_become 18 = .ok (.bipush 8, 2) := by decide +kernel
theorem dX4_become_20 : decode cX4_become 20 = .ok (.invokestatic 25, 3) := by decide +kernel
theorem dX4_become_23 : decode cX4_become 23 = .ok (.aload_n 1, 1) := by decide +kernel
theorem dX4_become_24 : decode cX4_become 24 = .ok (.getfield 19, 3) := by decide +kernel
theorem dX4_become_27 : decode cX4_become 27 = .ok (.iconst 0, 1) := by decide +kernel
theorem dX4_become_28 : decode cX4_become 28 = .ok (.aload_n 0, 1) := by decide +kernel
theorem dX4_become_29 : decode cX4_become 29 = .ok (.getfield 19, 3) := by decide +kernel
theorem dX4_become_32 : decode cX4_become 32 = .ok (.iconst 0, 1) := by decide +kernel
theorem dX4_become_33 : decode cX4_become 33 = .ok (.bipush 8, 2) := by decide +kernel
theorem dX4_become_35 : decode cX4_become 35 = .ok (.invokestatic 25, 3) := by decide +kernel
theorem dX4_become_38 : decode cX4_become 38 = .ok (.aload_n 1, 1) := by decide +kernel
theorem dX4_become_39 : decode cX4_become 39 = .ok (.getfield 22, 3) := by decide +kernel
theorem dX4_become_42 : decode cX4_become 42 = .ok (.iconst 0, 1) := by decide +kernel
theorem dX4_become_43 : decode cX4_become 43 = .ok (.aload_n 0, 1) := by decide +kernel
theorem dX4_become_44 : decode cX4_become 44 = .ok (.getfield 22, 3) := by decide +kernel
theorem dX4_become_47 : decode cX4_become 47 = .ok (.iconst 0, 1) := by decide +kernel
theorem dX4_become_48 : decode cX4_become 48 = .ok (.bipush 8, 2) := by decide +kernel
theorem dX4_become_50 : decode cX4_become 50 = .ok (.invokestatic 25, 3) := by decide +kernel
theorem dX4_become_53 : decode cX4_become 53 = .ok (.return_, 1) := by decide +kernel
theorem dX4_has_0 : decode cX4_has 0 = .ok (.iload_n 1, 1) := by decide +kernel
theorem dX4_has_1 : decode cX4_has 1 = .ok (.ifCond .lt 21, 3) := by decide +kernel
theorem dX4_has_4 : decode cX4_has 4 = .ok (.iload_n 1, 1) := by decide +kernel
theorem dX4_has_5 : decode cX4_has 5 = .ok (.aload_n 0, 1) := by decide +kernel
theorem dX4_has_6 : decode cX4_has 6 = .ok (.getfield 9, 3) := by decide +kernel
theorem dX4_has_9 : decode cX4_has 9 = .ok (.if_icmp .ge 13, 3) := by decide +kernel
theorem dX4_has_12 : decode cX4_has 12 = .ok (.iload_n 1, 1) := by decide +kernel
theorem dX4_has_13 : decode cX4_has 13 = .ok (.bipush 8, 2) := by decide +kernel
theorem dX4_has_15 : decode cX4_has 15 = .ok (.if_icmp .ge 7, 3) := by decide +kernel
theorem dX4_has_18 : decode cX4_has 18 = .ok (.iconst 1, 1) := by decide +kernel
theorem dX4_has_19 : decode cX4_has 19 = .ok (.goto 4, 3) := by decide +kernel
theorem dX4_has_22 : decode cX4_has 22 = .ok (.iconst 0, 1) := by decide +kernel
theorem dX4_has_23 : decode cX4_has 23 = .ok (.ireturn, 1) := by decide +kernel
theorem dX4_isFull_0 : decode cX4_isFull 0 = .ok (.aload_n 0, 1) := by decide +kernel
theorem dX4_isFull_1 : decode cX4_isFull 1 = .ok (.getfield 9, 3) := by decide +kernel
theorem dX4_isFull_4 : decode cX4_isFull 4 = .ok (.ifCond .lt 12, 3) := by decide +kernel
theorem dX4_isFull_7 : decode cX4_isFull 7 = .ok (.aload_n 0, 1) := by decide +kernel
theorem dX4_isFull_8 : decode cX4_isFull 8 = .ok (.getfield 9, 3) := by decide +kernel
theorem dX4_isFull_11 : decode cX4_isFull 11 = .ok (.bipush 8, 2) := by decide +kernel
theorem dX4_isFull_13 : decode cX4_isFull 13 = .ok (.if_icmp .lt 7, 3) := by decide +kernel
theorem dX4_isFull_16 : decode cX4_isFull 16 = .ok (.iconst 1, 1) := by decide +kernel
theorem dX4_isFull_17 : decode cX4_isFull 17 = .ok (.goto 4, 3) := by decide +kernel
theorem dX4_isFull_20 : decode cX4_isFull 20 = .ok (.iconst 0, 1) := by decide +kernel
theorem dX4_isFull_21 : decode cX4_isFull 21 = .ok (.ireturn, 1) := by decide +kernel
theorem dX4_add_0 : decode cX4_add 0 = .ok (.aload_n 0, 1) := by decide +kernel
theorem dX4_add_1 : decode cX4_add 1 = .ok (.invokevirtual 31, 3) := by decide +kernel
theorem dX4_add_4 : decode cX4_add 4 = .ok (.ifCond .eq 6, 3) := by decide +kernel
theorem dX4_add_7 : decode cX4_add 7 = .ok (.bipush (-6), 2) := by decide +kernel
theorem dX4_add_9 : decode cX4_add 9 = .ok (.ireturn, 1) := by decide +kernel
theorem dX4_add_10 : decode cX4_add 10 = .ok (.aload_n 0, 1) := by decide +kernel
theorem dX4_add_11 : decode cX4_add 11 = .ok (.getfield 9, 3) := by decide +kernel
theorem dX4_add_14 : decode cX4_add 14 = .ok (.istore 4, 2) := by decide +kernel
theorem dX4_add_16 : decode cX4_add 16 = .ok (.aload_n 0, 1) := by decide +kernel
theorem dX4_add_17 : decode cX4_add 17 = .ok (.dup, 1) := by decide +kernel
theorem dX4_add_18 : decode cX4_add 18 = .ok (.getfield 9, 3) := by decide +kernel
theorem dX4_add_21 : decode cX4_add 21 = .ok (.iconst 1, 1) := by decide +kernel
theorem dX4_add_22 : decode cX4_add 22 = .ok (.iadd, 1) := by decide +kernel
theorem dX4_add_23 : decode cX4_add 23 = .ok (.putfield 9, 3) := by decide +kernel
theorem dX4_add_26 : decode cX4_add 26 = .ok (.aload_n 0, 1) := by decide +kernel
theorem dX4_add_27 : decode cX4_add 27 = .ok (.getfield 15, 3) := by decide +kernel
theorem dX4_add_30 : decode cX4_add 30 = .ok (.iload 4, 2) := by decide +kernel
theorem dX4_add_32 : decode cX4_add 32 = .ok (.iload_n 1, 1) := by decide +kernel
theorem dX4_add_33 : decode cX4_add 33 = .ok (.iastore, 1) := by decide +kernel
theorem dX4_add_34 : decode cX4_add 34 = .ok (.aload_n 0, 1) := by decide +kernel
theorem dX4_add_35 : decode cX4_add 35 = .ok (.getfield 19, 3) := by decide +kernel
theorem dX4_add_38 : decode cX4_add 38 = .ok (.iload 4, 2) := by decide +kernel
theorem dX4_add_40 : decode cX4_add 40 = .ok (.iload_n 2, 1) := by decide +kernel
theorem dX4_add_41 : decode cX4_add 41 = .ok (.iastore, 1) := by decide +kernel
theorem dX4_add_42 : decode cX4_add 42 = .ok (.aload_n 0, 1) := by decide +kernel
theorem dX4_add_43 : decode cX4_add 43 = .ok (.getfield 22, 3) := by decide +kernel
theorem dX4_add_46 : decode cX4_add 46 = .ok (.iload 4, 2) := by decide +kernel
theorem dX4_add_48 : decode cX4_add 48 = .ok (.iload_n 3, 1) := by decide +kernel
theorem dX4_add_49 : decode cX4_add 49 = .ok (.iastore, 1) := by decide +kernel
theorem dX4_add_50 : decode cX4_add 50 = .ok (.iload 4, 2) := by decide +kernel
theorem dX4_add_52 : decode cX4_add 52 = .ok (.ireturn, 1) := by decide +kernel
theorem dX5_init_0 : decode cX5_init 0 = .ok (.aload_n 0, 1) := by decide +kernel
theorem dX5_init_1 : decode cX5_init 1 = .ok (.invokespecial 3, 3) := by decide +kernel
theorem dX5_init_4 : decode cX5_init 4 = .ok (.aload_n 0, 1) := by decide +kernel
theorem dX5_init_5 : decode cX5_init 5 = .ok (.iconst 0, 1) := by decide +kernel
theorem dX5_init_6 : decode cX5_init 6 = .ok (.putfield 9, 3) := by decide +kernel
theorem dX5_init_9 : decode cX5_init 9 = .ok (.aload_n 0, 1) := by decide +kernel
theorem dX5_init_10 : decode cX5_init 10 = .ok (.bipush 24, 2) := by decide +kernel
theorem dX5_init_12 : decode cX5_init 12 = .ok (.newarray .int, 2) := by decide +kernel
theorem dX5_init_14 : decode cX5_init 14 = .ok (.putfield 15, 3) := by decide +kernel
theorem dX5_init_17 : decode cX5_init 17 = .ok (.aload_n 0, 1) := by decide +kernel
theorem dX5_init_18 : decode cX5_init 18 = .ok (.bipush 24, 2) := by decide +kernel
theorem dX5_init_20 : decode cX5_init 20 = .ok (.newarray .int, 2) := by decide +kernel
theorem dX5_init_22 : decode cX5_init 22 = .ok (.putfield 19, 3) := by decide +kernel
theorem dX5_init_25 : decode cX5_init 25 = .ok (.aload_n 0, 1) := by decide +kernel
theorem dX5_init_26 : decode cX5_init 26 = .ok (.bipush 24, 2) := by decide +kernel
theorem dX5_init_28 : decode cX5_init 28 = .ok (.newarray .int, 2) := by decide +kernel
theorem dX5_init_30 : decode cX5_init 30 = .ok (.putfield 22, 3) := by decide +kernel
theorem dX5_init_33 : decode cX5_init 33 = .ok (.aload_n 0, 1) := by decide +kernel
theorem dX5_init_34 : decode cX5_init 34 = .ok (.bipush 24, 2) := by decide +kernel
theorem dX5_init_36 : decode cX5_init 36 = .ok (.newarray .int, 2) := by decide +kernel
theorem dX5_init_38 : decode cX5_init 38 = .ok (.putfield 25, 3) := by decide +kernel
theorem dX5_init_41 : decode cX5_init 41 = .ok (.aload_n 0, 1) := by decide +kernel
theorem dX5_init_42 : decode cX5_init 42 = .ok (.bipush 24, 2) := by decide +kernel
theorem dX5_init_44 : decode cX5_init 44 = .ok (.newarray .int, 2) := by decide +kernel
theorem dX5_init_46 : decode cX5_init 46 = .ok (.putfield 28, 3) := by decide +kernel
theorem dX5_init_49 : decode cX5_init 49 = .ok (.aload_n 0, 1) := by decide +kernel
theorem dX5_init_50 : decode cX5_init 50 = .ok (.iconst 0, 1) := by decide +kernel
theorem dX5_init_51 : decode cX5_init 51 = .ok (.putfield 31, 3) := by decide +kernel
theorem dX5_init_54 : decode cX5_init 54 = .ok (.return_, 1) := by decide +kernel
theorem dX5_become_0 : decode cX5_become 0 = .ok (.aload_n 0, 1) := by decide +kernel
theorem dX5_become_1 : decode cX5_become 1 = .ok (.aload_n 1, 1) := by decide +kernel
theorem dX5_become_2 : decode cX5_become 2 = .ok (.getfield 9, 3) := by decide +kernel
theorem dX5_become_5 : decode cX5_become 5 = .ok (.putfield 9, 3) := by decide +kernel
theorem dX5_become_8 : decode cX5_become 8 = .ok (.aload_n 1, 1) := by decide +kernel
theorem dX5_become_9 : decode cX5_become 9 = .ok (.getfield 15, 3) := by decide +kernel
theorem dX5_become_12 : decode cX5_become 12 = .ok (.iconst 0, 1) := by decide +kernel
theorem dX5_become_13 : decode cX5_become 13 = .ok (.aload_n 0, 1) := by decide +kernel
theorem dX5_become_14 : decode cX5_become 14 = .ok (.getfield 15, 3) := by decide +kernel
theorem dX5_become_17 : decode cX5_become 17 = .ok (.iconst 0, 1) := by decide +kernel
theorem dX5_become_18 : decode cX5_become 18 = .ok (.bipush 24, 2) := by decide +kernel
theorem dX5_become_20 : decode cX5_become 20 = .ok (.invokestatic 34, 3) := by decide +kernel
theorem dX5_become_23 : decode cX5_become 23 = .ok (.aload_n 1, 1) := by decide +kernel
theorem dX5_become_24 : decode cX5_become 24 = .ok (.getfield 19, 3) := by decide +kernel
theorem dX5_become_27 : decode cX5_become 27 = .ok (.iconst 0, 1) := by decide +kernel
theorem dX5_become_28 : decode cX5_become 28 = .ok (.aload_n 0, 1) := by decide +kernel
theorem dX5_become_29 : decode cX5_become 29 = .ok (.getfield 19, 3) := by decide +kernel
theorem dX5_become_32 : decode cX5_become 32 = .ok (.iconst 0, 1) := by decide +kernel
theorem dX5_become_33 : decode cX5_become 33 = .ok (.bipush 24, 2) := by decide +kernel
theorem dX5_become_35 : decode cX5_become 35 = .ok (.invokestatic 34, 3) := by decide +kernel
theorem dX5_become_38 : decode cX5_become 38 = .ok (.aload_n 1, 1) := by decide +kernel
theorem dX5_become_39 : decode cX5_become 39 = .ok (.getfield 22, 3) := by decide +kernel
theorem dX5_become_42 : decode cX5_become 42 = .ok (.iconst 0, 1) := by decide +kernel
theorem dX5_become_43 : decode cX5_become 43 = .ok (.aload_n 0, 1) := by decide +kernel
theorem dX5_become_44 : decode cX5_become 44 = .ok (.getfield 22, 3) := by decide +kernel
theorem dX5_become_47 : decode cX5_become 47 = .ok (.iconst 0, 1) := by decide +kernel
theorem dX5_become_48 : decode cX5_become 48 = .ok (.bipush 24, 2) := by decide +kernel
theorem dX5_become_50 : decode cX5_become 50 = .ok (.invokestatic 34, 3) := by decide +kernel
theorem dX5_become_53 : decode cX5_become 53 = .ok (.aload_n 1, 1) := by decide +kernel
theorem dX5_become_54 : decode cX5_become 54 = .ok (.getfield 25, 3) := by decide +kernel
theorem dX5_become_57 : decode cX5_become 57 = .ok (.iconst 0, 1) := by decide +kernel
theorem dX5_become_58 : decode cX5_become 58 = .ok (.aload_n 0, 1) := by decide +kernel
theorem dX5_become_59 : decode cX5_become 59 = .ok (.getfield 25, 3) := by decide +kernel
theorem dX5_become_62 : decode cX5_become 62 = .ok (.iconst 0, 1) := by decide +kernel
theorem dX5_become_63 : decode cX5_become 63 = .ok (.bipush 24, 2) := by decide +kernel
theorem dX5_become_65 : decode cX5_become 65 = .ok (.invokestatic 34, 3) := by decide +kernel
theorem dX5_become_68 : decode cX5_become 68 = .ok (.aload_n 1, 1) := by decide +kernel
theorem dX5_become_69 : decode cX5_become 69 = .ok (.getfield 28, 3) := by decide +kernel
theorem dX5_become_72 : decode cX5_become 72 = .ok (.iconst 0, 1) := by decide +kernel
theorem dX5_become_73 : decode cX5_become 73 = .ok (.aload_n 0, 1) := by decide +kernel
theorem dX5_become_74 : decode cX5_become 74 = .ok (.getfield 28, 3) := by decide +kernel
theorem dX5_become_77 : decode cX5_become 77 = .ok (.iconst 0, 1) := by decide +kernel
theorem dX5_become_78 : decode cX5_become 78 = .ok (.bipush 24, 2) := by decide +kernel
theorem dX5_become_80 : decode cX5_become 80 = .ok (.invokestatic 34, 3) := by decide +kernel
theorem dX5_become_83 : decode cX5_become 83 = .ok (.aload_n 0, 1) := by decide +kernel
theorem dX5_become_84 : decode cX5_become 84 = .ok (.aload_n 1, 1) := by decide +kernel
theorem dX5_become_85 : decode cX5_become 85 = .ok (.getfield 31, 3) := by decide +kernel
theorem dX5_become_88 : decode cX5_become 88 = .ok (.putfield 31, 3) := by decide +kernel
theorem dX5_become_91 : decode cX5_become 91 = .ok (.return_, 1) := by decide +kernel
theorem dX5_has_0 : decode cX5_has 0 = .ok (.iload_n 1, 1) := by decide +kernel
theorem dX5_has_1 : decode cX5_has 1 = .ok (.ifCond .lt 21, 3) := by decide +kernel
theorem dX5_has_4 : decode cX5_has 4 = .ok (.iload_n 1, 1) := by decide +kernel
theorem dX5_has_5 : decode cX5_has 5 = .ok (.aload_n 0, 1) := by decide +kernel
theorem dX5_has_6 : decode cX5_has 6 = .ok (.getfield 9, 3) := by decide +kernel
theorem dX5_has_9 : decode cX5_has 9 = .ok (.if_icmp .ge 13, 3) := by decide +kernel
theorem dX5_has_12 : decode cX5_has 12 = .ok (.iload_n 1, 1) := by decide +kernel
theorem dX5_has_13 : decode cX5_has 13 = .ok (.bipush 24, 2) := by decide +kernel
theorem dX5_has_15 : decode cX5_has 15 = .ok (.if_icmp .ge 7, 3) := by decide +kernel
theorem dX5_has_18 : decode cX5_has 18 = .ok (.iconst 1, 1) := by decide +kernel
theorem dX5_has_19 : decode cX5_has 19 = .ok (.goto 4, 3) := by decide +kernel
theorem dX5_has_22 : decode cX5_has 22 = .ok (.iconst 0, 1) := by decide +kernel
theorem dX5_has_23 : decode cX5_has 23 = .ok (.ireturn, 1) := by decide +kernel
theorem dX5_isFull_0 : decode cX5_isFull 0 = .ok (.aload_n 0, 1) := by decide +kernel
theorem dX5_isFull_1 : decode cX5_isFull 1 = .ok (.getfield 9, 3) := by decide +kernel
theorem dX5_isFull_4 : decode cX5_isFull 4 = .ok (.ifCond .lt 12, 3) := by decide +kernel
theorem dX5_isFull_7 : decode cX5_isFull 7 = .ok (.aload_n 0, 1) := by decide +kernel
theorem dX5_isFull_8 : decode cX5_isFull 8 = .ok (.getfield 9, 3) := by decide +kernel
theorem dX5_isFull_11 : decode cX5_isFull 11 = .ok (.bipush 24, 2) := by decide +kernel
theorem dX5_isFull_13 : decode cX5_isFull 13 = .ok (.if_icmp .lt 7, 3) := by decide +kernel
theorem dX5_isFull_16 : decode cX5_isFull 16 = .ok (.iconst 1, 1) := by decide +kernel
theorem dX5_isFull_17 : decode cX5_isFull 17 = .ok (.goto 4, 3) := by decide +kernel
theorem dX5_isFull_20 : decode cX5_isFull 20 = .ok (.iconst 0, 1) := by decide +kernel
theorem dX5_isFull_21 : decode cX5_isFull 21 = .ok (.ireturn, 1) := by decide +kernel
theorem dX5_isShut_0 : decode cX5_isShut 0 = .ok (.aload_n 0, 1) := by decide +kernel
theorem dX5_isShut_1 : decode cX5_isShut 1 = .ok (.getfield 31, 3) := by decide +kernel
theorem dX5_isShut_4 : decode cX5_isShut 4 = .ok (.iload_n 1, 1) := by decide +kernel
theorem dX5_isShut_5 : decode cX5_isShut 5 = .ok (.ishr, 1) := by decide +kernel
theorem dX5_isShut_6 : decode cX5_isShut 6 = .ok (.iconst 1, 1) := by decide +kernel
theorem dX5_isShut_7 : decode cX5_isShut 7 = .ok (.iand, 1) := by decide +kernel
theorem dX5_isShut_8 : decode cX5_isShut 8 = .ok (.iconst 1, 1) := by decide +kernel
theorem dX5_isShut_9 : decode cX5_isShut 9 = .ok (.if_icmp .ne 7, 3) := by decide +kernel
theorem dX5_isShut_12 : decode cX5_isShut 12 = .ok (.iconst 1, 1) := by decide +kernel
theorem dX5_isShut_13 : decode cX5_isShut 13 = .ok (.goto 4, 3) := by decide +kernel
theorem dX5_isShut_16 : decode cX5_isShut 16 = .ok (.iconst 0, 1) := by decide +kernel
theorem dX5_isShut_17 : decode cX5_isShut 17 = .ok (.ireturn, 1) := by decide +kernel
theorem dX5_turn_0 : decode cX5_turn 0 = .ok (.aload_n 0, 1) := by decide +kernel
theorem dX5_turn_1 : decode cX5_turn 1 = .ok (.dup, 1) := by decide +kernel
theorem dX5_turn_2 : decode cX5_turn 2 = .ok (.getfield 31, 3) := by decide +kernel
theorem dX5_turn_5 : decode cX5_turn 5 = .ok (.iconst 1, 1) := by decide +kernel
theorem dX5_turn_6 : decode cX5_turn 6 = .ok (.iload_n 1, 1) := by decide +kernel
theorem dX5_turn_7 : decode cX5_turn 7 = .ok (.ishl, 1) := by decide +kernel
theorem dX5_turn_8 : decode cX5_turn 8 = .ok (.ixor, 1) := by decide +kernel
theorem dX5_turn_9 : decode cX5_turn 9 = .ok (.putfield 31, 3) := by decide +kernel
theorem dX5_turn_12 : decode cX5_turn 12 = .ok (.return_, 1) := by decide +kernel
theorem dX5_together_0 : decode cX5_together 0 = .ok (.iconst 0, 1) := by decide +kernel
theorem dX5_together_1 : decode cX5_together 1 = .ok (.istore 4, 2) := by decide +kernel
theorem dX5_together_3 : decode cX5_together 3 = .ok (.iconst 0, 1) := by decide +kernel
theorem dX5_together_4 : decode cX5_together 4 = .ok (.istore 5, 2) := by decide +kernel
theorem dX5_together_6 : decode cX5_together 6 = .ok (.iload 5, 2) := by decide +kernel
theorem dX5_together_8 : decode cX5_together 8 = .ok (.aload_n 0, 1) := by decide +kernel
theorem dX5_together_9 : decode cX5_together 9 = .ok (.getfield 9, 3) := by decide +kernel
theorem dX5_together_12 : decode cX5_together 12 = .ok (.if_icmp .ge 54, 3) := by decide +kernel
theorem dX5_together_15 : decode cX5_together 15 = .ok (.aload_n 0, 1) := by decide +kernel
theorem dX5_together_16 : decode cX5_together 16 = .ok (.getfield 15, 3) := by decide +kernel
theorem dX5_together_19 : decode cX5_together 19 = .ok (.iload 5, 2) := by decide +kernel
theorem dX5_together_21 : decode cX5_together 21 = .ok (.iaload, 1) := by decide +kernel
end
section
theorem dX5_together_22 : decode cX5_together 22 = .ok (.iload_n 1, 1) := by decide +kernel
theorem dX5_together_23 : decode cX5_together 23 = .ok (.if_icmp .ne 37, 3) := by decide +kernel
theorem dX5_together_26 : decode cX5_together 26 = .ok (.aload_n 0, 1) := by decide +kernel
theorem dX5_together_27 : decode cX5_together 27 = .ok (.getfield 22, 3) := by decide +kernel
theorem dX5_together_30 : decode cX5_together 30 = .ok (.iload 5, 2) := by decide +kernel
theorem dX5_together_32 : decode cX5_together 32 = .ok (.iaload, 1) := by decide +kernel
theorem dX5_together_33 : decode cX5_together 33 = .ok (.iload_n 2, 1) := by decide +kernel
theorem dX5_together_34 : decode cX5_together 34 = .ok (.if_icmp .ne 26, 3) := by decide +kernel
theorem dX5_together_37 : decode cX5_together 37 = .ok (.aload_n 0, 1) := by decide +kernel
theorem dX5_together_38 : decode cX5_together 38 = .ok (.getfield 25, 3) := by decide +kernel
theorem dX5_together_41 : decode cX5_together 41 = .ok (.iload 5, 2) := by decide +kernel
theorem dX5_together_43 : decode cX5_together 43 = .ok (.iaload, 1) := by decide +kernel
theorem dX5_together_44 : decode cX5_together 44 = .ok (.iload_n 3, 1) := by decide +kernel
theorem dX5_together_45 : decode cX5_together 45 = .ok (.if_icmp .ne 15, 3) := by decide +kernel
theorem dX5_together_48 : decode cX5_together 48 = .ok (.iload 4, 2) := by decide +kernel
theorem dX5_together_50 : decode cX5_together 50 = .ok (.aload_n 0, 1) := by decide +kernel
theorem dX5_together_51 : decode cX5_together 51 = .ok (.getfield 28, 3) := by decide +kernel
theorem dX5_together_54 : decode cX5_together 54 = .ok (.iload 5, 2) := by decide +kernel
theorem dX5_together_56 : decode cX5_together 56 = .ok (.iaload, 1) := by decide +kernel
theorem dX5_together_57 : decode cX5_together 57 = .ok (.iadd, 1) := by decide +kernel
theorem dX5_together_58 : decode cX5_together 58 = .ok (.istore 4, 2) := by decide +kernel
theorem dX5_together_60 : decode cX5_together 60 = .ok (.iinc 5 1, 3) := by decide +kernel
theorem dX5_together_63 : decode cX5_together 63 = .ok (.goto (-57), 3) := by decide +kernel
theorem dX5_together_66 : decode cX5_together 66 = .ok (.iload 4, 2) := by decide +kernel
theorem dX5_together_68 : decode cX5_together 68 = .ok (.ireturn, 1) := by decide +kernel
theorem dX5_add_0 : decode cX5_add 0 = .ok (.aload_n 0, 1) := by decide +kernel
theorem dX5_add_1 : decode cX5_add 1 = .ok (.invokevirtual 40, 3) := by decide +kernel
theorem dX5_add_4 : decode cX5_add 4 = .ok (.ifCond .eq 6, 3) := by decide +kernel
theorem dX5_add_7 : decode cX5_add 7 = .ok (.bipush (-6), 2) := by decide +kernel
theorem dX5_add_9 : decode cX5_add 9 = .ok (.ireturn, 1) := by decide +kernel
theorem dX5_add_10 : decode cX5_add 10 = .ok (.aload_n 0, 1) := by decide +kernel
theorem dX5_add_11 : decode cX5_add 11 = .ok (.getfield 9, 3) := by decide +kernel
theorem dX5_add_14 : decode cX5_add 14 = .ok (.istore 6, 2) := by decide +kernel
theorem dX5_add_16 : decode cX5_add 16 = .ok (.aload_n 0, 1) := by decide +kernel
theorem dX5_add_17 : decode cX5_add 17 = .ok (.dup, 1) := by decide +kernel
theorem dX5_add_18 : decode cX5_add 18 = .ok (.getfield 9, 3) := by decide +kernel
theorem dX5_add_21 : decode cX5_add 21 = .ok (.iconst 1, 1) := by decide +kernel
theorem dX5_add_22 : decode cX5_add 22 = .ok (.iadd, 1) := by decide +kernel
theorem dX5_add_23 : decode cX5_add 23 = .ok (.putfield 9, 3) := by decide +kernel
theorem dX5_add_26 : decode cX5_add 26 = .ok (.aload_n 0, 1) := by decide +kernel
theorem dX5_add_27 : decode cX5_add 27 = .ok (.getfield 15, 3) := by decide +kernel
theorem dX5_add_30 : decode cX5_add 30 = .ok (.iload 6, 2) := by decide +kernel
theorem dX5_add_32 : decode cX5_add 32 = .ok (.iload_n 1, 1) := by decide +kernel
theorem dX5_add_33 : decode cX5_add 33 = .ok (.iastore, 1) := by decide +kernel
theorem dX5_add_34 : decode cX5_add 34 = .ok (.aload_n 0, 1) := by decide +kernel
theorem dX5_add_35 : decode cX5_add 35 = .ok (.getfield 19, 3) := by decide +kernel
theorem dX5_add_38 : decode cX5_add 38 = .ok (.iload 6, 2) := by decide +kernel
theorem dX5_add_40 : decode cX5_add 40 = .ok (.iload_n 2, 1) := by decide +kernel
theorem dX5_add_41 : decode cX5_add 41 = .ok (.iastore, 1) := by decide +kernel
theorem dX5_add_42 : decode cX5_add 42 = .ok (.aload_n 0, 1) := by decide +kernel
theorem dX5_add_43 : decode cX5_add 43 = .ok (.getfield 22, 3) := by decide +kernel
theorem dX5_add_46 : decode cX5_add 46 = .ok (.iload 6, 2) := by decide +kernel
theorem dX5_add_48 : decode cX5_add 48 = .ok (.iload_n 3, 1) := by decide +kernel
theorem dX5_add_49 : decode cX5_add 49 = .ok (.iastore, 1) := by decide +kernel
theorem dX5_add_50 : decode cX5_add 50 = .ok (.aload_n 0, 1) := by decide +kernel
theorem dX5_add_51 : decode cX5_add 51 = .ok (.getfield 25, 3) := by decide +kernel
theorem dX5_add_54 : decode cX5_add 54 = .ok (.iload 6, 2) := by decide +kernel
theorem dX5_add_56 : decode cX5_add 56 = .ok (.iload 4, 2) := by decide +kernel
theorem dX5_add_58 : decode cX5_add 58 = .ok (.iastore, 1) := by decide +kernel
theorem dX5_add_59 : decode cX5_add 59 = .ok (.aload_n 0, 1) := by decide +kernel
theorem dX5_add_60 : decode cX5_add 60 = .ok (.getfield 28, 3) := by decide +kernel
theorem dX5_add_63 : decode cX5_add 63 = .ok (.iload 6, 2) := by decide +kernel
theorem dX5_add_65 : decode cX5_add 65 = .ok (.iload 5, 2) := by decide +kernel
theorem dX5_add_67 : decode cX5_add 67 = .ok (.iastore, 1) := by decide +kernel
theorem dX5_add_68 : decode cX5_add 68 = .ok (.iload 6, 2) := by decide +kernel
theorem dX5_add_70 : decode cX5_add 70 = .ok (.ireturn, 1) := by decide +kernel
theorem dX6_init_0 : decode cX6_init 0 = .ok (.aload_n 0, 1) := by decide +kernel
theorem dX6_init_1 : decode cX6_init 1 = .ok (.invokespecial 1, 3) := by decide +kernel
theorem dX6_init_4 : decode cX6_init 4 = .ok (.aload_n 0, 1) := by decide +kernel
theorem dX6_init_5 : decode cX6_init 5 = .ok (.new 7, 3) := by decide +kernel
theorem dX6_init_8 : decode cX6_init 8 = .ok (.dup, 1) := by decide +kernel
theorem dX6_init_9 : decode cX6_init 9 = .ok (.invokespecial 9, 3) := by decide +kernel
theorem dX6_init_12 : decode cX6_init 12 = .ok (.putfield 10, 3) := by decide +kernel
theorem dX6_init_15 : decode cX6_init 15 = .ok (.aload_n 0, 1) := by decide +kernel
theorem dX6_init_16 : decode cX6_init 16 = .ok (.new 7, 3) := by decide +kernel
theorem dX6_init_19 : decode cX6_init 19 = .ok (.dup, 1) := by decide +kernel
theorem dX6_init_20 : decode cX6_init 20 = .ok (.invokespecial 9, 3) := by decide +kernel
theorem dX6_init_23 : decode cX6_init 23 = .ok (.putfield 16, 3) := by decide +kernel
theorem dX6_init_26 : decode cX6_init 26 = .ok (.aload_n 0, 1) := by decide +kernel
theorem dX6_init_27 : decode cX6_init 27 = .ok (.new 7, 3) := by decide +kernel
theorem dX6_init_30 : decode cX6_init 30 = .ok (.dup, 1) := by decide +kernel
theorem dX6_init_31 : decode cX6_init 31 = .ok (.invokespecial 9, 3) := by decide +kernel
theorem dX6_init_34 : decode cX6_init 34 = .ok (.putfield 19, 3) := by decide +kernel
theorem dX6_init_37 : decode cX6_init 37 = .ok (.aload_n 0, 1) := by decide +kernel
theorem dX6_init_38 : decode cX6_init 38 = .ok (.iconst 0, 1) := by decide +kernel
theorem dX6_init_39 : decode cX6_init 39 = .ok (.putfield 22, 3) := by decide +kernel
theorem dX6_init_42 : decode cX6_init 42 = .ok (.aload_n 0, 1) := by decide +kernel
theorem dX6_init_43 : decode cX6_init 43 = .ok (.new 26, 3) := by decide +kernel
theorem dX6_init_46 : decode cX6_init 46 = .ok (.dup, 1) := by decide +kernel
theorem dX6_init_47 : decode cX6_init 47 = .ok (.invokespecial 28, 3) := by decide +kernel
theorem dX6_init_50 : decode cX6_init 50 = .ok (.putfield 29, 3) := by decide +kernel
theorem dX6_init_53 : decode cX6_init 53 = .ok (.aload_n 0, 1) := by decide +kernel
theorem dX6_init_54 : decode cX6_init 54 = .ok (.bipush 28, 2) := by decide +kernel
theorem dX6_init_56 : decode cX6_init 56 = .ok (.newarray .int, 2) := by decide +kernel
theorem dX6_init_58 : decode cX6_init 58 = .ok (.putfield 33, 3) := by decide +kernel
theorem dX6_init_61 : decode cX6_init 61 = .ok (.aload_n 0, 1) := by decide +kernel
theorem dX6_init_62 : decode cX6_init 62 = .ok (.iconst 0, 1) := by decide +kernel
theorem dX6_init_63 : decode cX6_init 63 = .ok (.putfield 37, 3) := by decide +kernel
theorem dX6_init_66 : decode cX6_init 66 = .ok (.aload_n 0, 1) := by decide +kernel
theorem dX6_init_67 : decode cX6_init 67 = .ok (.bipush 7, 2) := by decide +kernel
theorem dX6_init_69 : decode cX6_init 69 = .ok (.newarray .int, 2) := by decide +kernel
theorem dX6_init_71 : decode cX6_init 71 = .ok (.putfield 41, 3) := by decide +kernel
theorem dX6_init_74 : decode cX6_init 74 = .ok (.return_, 1) := by decide +kernel
theorem dX6_feed_0 : decode cX6_feed 0 = .ok (.iload_n 1, 1) := by decide +kernel
theorem dX6_feed_1 : decode cX6_feed 1 = .ok (.iconst 1, 1) := by decide +kernel
theorem dX6_feed_2 : decode cX6_feed 2 = .ok (.if_icmp .ge 10, 3) := by decide +kernel
theorem dX6_feed_5 : decode cX6_feed 5 = .ok (.aload_n 0, 1) := by decide +kernel
theorem dX6_feed_6 : decode cX6_feed 6 = .ok (.bipush (-4), 2) := by decide +kernel
theorem dX6_feed_8 : decode cX6_feed 8 = .ok (.invokevirtual 44, 3) := by decide +kernel
theorem dX6_feed_11 : decode cX6_feed 11 = .ok (.ireturn, 1) := by decide +kernel
theorem dX6_feed_12 : decode cX6_feed 12 = .ok (.iload_n 1, 1) := by decide +kernel
theorem dX6_feed_13 : decode cX6_feed 13 = .ok (.bipush 8, 2) := by decide +kernel
theorem dX6_feed_15 : decode cX6_feed 15 = .ok (.if_icmp .gt 17, 3) := by decide +kernel
theorem dX6_feed_18 : decode cX6_feed 18 = .ok (.aload_n 0, 1) := by decide +kernel
theorem dX6_feed_19 : decode cX6_feed 19 = .ok (.getfield 29, 3) := by decide +kernel
theorem dX6_feed_22 : decode cX6_feed 22 = .ok (.getfield 48, 3) := by decide +kernel
theorem dX6_feed_25 : decode cX6_feed 25 = .ok (.iload_n 1, 1) := by decide +kernel
theorem dX6_feed_26 : decode cX6_feed 26 = .ok (.iadd, 1) := by decide +kernel
theorem dX6_feed_27 : decode cX6_feed 27 = .ok (.bipush 96, 2) := by decide +kernel
theorem dX6_feed_29 : decode cX6_feed 29 = .ok (.if_icmp .le 10, 3) := by decide +kernel
theorem dX6_feed_32 : decode cX6_feed 32 = .ok (.aload_n 0, 1) := by decide +kernel
theorem dX6_feed_33 : decode cX6_feed 33 = .ok (.bipush (-6), 2) := by decide +kernel
theorem dX6_feed_35 : decode cX6_feed 35 = .ok (.invokevirtual 44, 3) := by decide +kernel
theorem dX6_feed_38 : decode cX6_feed 38 = .ok (.ireturn, 1) := by decide +kernel
theorem dX6_feed_39 : decode cX6_feed 39 = .ok (.iconst 0, 1) := by decide +kernel
theorem dX6_feed_40 : decode cX6_feed 40 = .ok (.istore 4, 2) := by decide +kernel
theorem dX6_feed_42 : decode cX6_feed 42 = .ok (.iload 4, 2) := by decide +kernel
theorem dX6_feed_44 : decode cX6_feed 44 = .ok (.iload_n 1, 1) := by decide +kernel
theorem dX6_feed_45 : decode cX6_feed 45 = .ok (.if_icmp .ge 28, 3) := by decide +kernel
theorem dX6_feed_48 : decode cX6_feed 48 = .ok (.aload_n 0, 1) := by decide +kernel
theorem dX6_feed_49 : decode cX6_feed 49 = .ok (.getfield 29, 3) := by decide +kernel
theorem dX6_feed_52 : decode cX6_feed 52 = .ok (.lload_n 2, 1) := by decide +kernel
theorem dX6_feed_53 : decode cX6_feed 53 = .ok (.bipush 8, 2) := by decide +kernel
theorem dX6_feed_55 : decode cX6_feed 55 = .ok (.iload 4, 2) := by decide +kernel
theorem dX6_feed_57 : decode cX6_feed 57 = .ok (.imul, 1) := by decide +kernel
theorem dX6_feed_58 : decode cX6_feed 58 = .ok (.lushr, 1) := by decide +kernel
theorem dX6_feed_59 : decode cX6_feed 59 = .ok (.l2i, 1) := by decide +kernel
theorem dX6_feed_60 : decode cX6_feed 60 = .ok (.sipush 255, 3) := by decide +kernel
theorem dX6_feed_63 : decode cX6_feed 63 = .ok (.iand, 1) := by decide +kernel
theorem dX6_feed_64 : decode cX6_feed 64 = .ok (.invokevirtual 51, 3) := by decide +kernel
theorem dX6_feed_67 : decode cX6_feed 67 = .ok (.iinc 4 1, 3) := by decide +kernel
theorem dX6_feed_70 : decode cX6_feed 70 = .ok (.goto (-28), 3) := by decide +kernel
theorem dX6_feed_73 : decode cX6_feed 73 = .ok (.aload_n 0, 1) := by decide +kernel
theorem dX6_feed_74 : decode cX6_feed 74 = .ok (.getfield 29, 3) := by decide +kernel
theorem dX6_feed_77 : decode cX6_feed 77 = .ok (.getfield 48, 3) := by decide +kernel
theorem dX6_feed_80 : decode cX6_feed 80 = .ok (.ireturn, 1) := by decide +kernel
theorem dX6_coast_0 : decode cX6_coast 0 = .ok (.aload_n 0, 1) := by decide +kernel
theorem dX6_coast_1 : decode cX6_coast 1 = .ok (.getfield 16, 3) := by decide +kernel
theorem dX6_coast_4 : decode cX6_coast 4 = .ok (.aload_n 0, 1) := by decide +kernel
theorem dX6_coast_5 : decode cX6_coast 5 = .ok (.getfield 10, 3) := by decide +kernel
theorem dX6_coast_8 : decode cX6_coast 8 = .ok (.invokevirtual 55, 3) := by decide +kernel
theorem dX6_coast_11 : decode cX6_coast 11 = .ok (.aload_n 0, 1) := by decide +kernel
theorem dX6_coast_12 : decode cX6_coast 12 = .ok (.getfield 29, 3) := by decide +kernel
theorem dX6_coast_15 : decode cX6_coast 15 = .ok (.aload_n 0, 1) := by decide +kernel
theorem dX6_coast_16 : decode cX6_coast 16 = .ok (.getfield 16, 3) := by decide +kernel
theorem dX6_coast_19 : decode cX6_coast 19 = .ok (.invokevirtual 59, 3) := by decide +kernel
theorem dX6_coast_22 : decode cX6_coast 22 = .ok (.istore_n 1, 1) := by decide +kernel
theorem dX6_coast_23 : decode cX6_coast 23 = .ok (.aload_n 0, 1) := by decide +kernel
theorem dX6_coast_24 : decode cX6_coast 24 = .ok (.getfield 29, 3) := by decide +kernel
theorem dX6_coast_27 : decode cX6_coast 27 = .ok (.iconst 0, 1) := by decide +kernel
theorem dX6_coast_28 : decode cX6_coast 28 = .ok (.putfield 48, 3) := by decide +kernel
theorem dX6_coast_31 : decode cX6_coast 31 = .ok (.iload_n 1, 1) := by decide +kernel
theorem dX6_coast_32 : decode cX6_coast 32 = .ok (.ifCond .lt 14, 3) := by decide +kernel
theorem dX6_coast_35 : decode cX6_coast 35 = .ok (.aload_n 0, 1) := by decide +kernel
theorem dX6_coast_36 : decode cX6_coast 36 = .ok (.getfield 10, 3) := by decide +kernel
theorem dX6_coast_39 : decode cX6_coast 39 = .ok (.aload_n 0, 1) := by decide +kernel
theorem dX6_coast_40 : decode cX6_coast 40 = .ok (.getfield 16, 3) := by decide +kernel
theorem dX6_coast_43 : decode cX6_coast 43 = .ok (.invokevirtual 55, 3) := by decide +kernel
theorem dX6_coast_46 : decode cX6_coast 46 = .ok (.iload_n 1, 1) := by decide +kernel
theorem dX6_coast_47 : decode cX6_coast 47 = .ok (.ireturn, 1) := by decide +kernel
theorem dX6_cell_0 : decode cX6_cell 0 = .ok (.aload_n 0, 1) := by decide +kernel
theorem dX6_cell_1 : decode cX6_cell 1 = .ok (.aload_n 0, 1) := by decide +kernel
theorem dX6_cell_2 : decode cX6_cell 2 = .ok (.getfield 10, 3) := by decide +kernel
theorem dX6_cell_5 : decode cX6_cell 5 = .ok (.getfield 63, 3) := by decide +kernel
theorem dX6_cell_8 : decode cX6_cell 8 = .ok (.iload_n 1, 1) := by decide +kernel
theorem dX6_cell_9 : decode cX6_cell 9 = .ok (.iload_n 2, 1) := by decide +kernel
theorem dX6_cell_10 : decode cX6_cell 10 = .ok (.invokevirtual 67, 3) := by decide +kernel
theorem dX6_cell_13 : decode cX6_cell 13 = .ok (.invokevirtual 73, 3) := by decide +kernel
theorem dX6_cell_16 : decode cX6_cell 16 = .ok (.ireturn, 1) := by decide +kernel
theorem dX6_set_0 : decode cX6_set 0 = .ok (.aload_n 0, 1) := by decide +kernel
theorem dX6_set_1 : decode cX6_set 1 = .ok (.getfield 10, 3) := by decide +kernel
theorem dX6_set_4 : decode cX6_set 4 = .ok (.getfield 63, 3) := by decide +kernel
theorem dX6_set_7 : decode cX6_set 7 = .ok (.iload_n 1, 1) := by decide +kernel
theorem dX6_set_8 : decode cX6_set 8 = .ok (.invokevirtual 76, 3) := by decide +kernel
theorem dX6_set_11 : decode cX6_set 11 = .ok (.ifCond .ne 9, 3) := by decide +kernel
theorem dX6_set_14 : decode cX6_set 14 = .ok (.aload_n 0, 1) := by decide +kernel
theorem dX6_set_15 : decode cX6_set 15 = .ok (.iconst (-1), 1) := by decide +kernel
theorem dX6_set_16 : decode cX6_set 16 = .ok (.invokevirtual 44, 3) := by decide +kernel
theorem dX6_set_19 : decode cX6_set 19 = .ok (.ireturn, 1) := by decide +kernel
theorem dX6_set_20 : decode cX6_set 20 = .ok (.iload_n 2, 1) := by decide +kernel
theorem dX6_set_21 : decode cX6_set 21 = .ok (.ifCond .lt 8, 3) := by decide +kernel
theorem dX6_set_24 : decode cX6_set 24 = .ok (.iload_n 2, 1) := by decide +kernel
theorem dX6_set_25 : decode cX6_set 25 = .ok (.iconst 3, 1) := by decide +kernel
theorem dX6_set_26 : decode cX6_set 26 = .ok (.if_icmp .le 10, 3) := by decide +kernel
theorem dX6_set_29 : decode cX6_set 29 = .ok (.aload_n 0, 1) := by decide +kernel
theorem dX6_set_30 : decode cX6_set 30 = .ok (.bipush (-2), 2) := by decide +kernel
theorem dX6_set_32 : decode cX6_set 32 = .ok (.invokevirtual 44, 3) := by decide +kernel
theorem dX6_set_35 : decode cX6_set 35 = .ok (.ireturn, 1) := by decide +kernel
theorem dX6_set_36 : decode cX6_set 36 = .ok (.iload_n 3, 1) := by decide +kernel
theorem dX6_set_37 : decode cX6_set 37 = .ok (.ifCond .ge 10, 3) := by decide +kernel
theorem dX6_set_40 : decode cX6_set 40 = .ok (.aload_n 0, 1) := by decide +kernel
theorem dX6_set_41 : decode cX6_set 41 = .ok (.bipush (-4), 2) := by decide +kernel
theorem dX6_set_43 : decode cX6_set 43 = .ok (.invokevirtual 44, 3) := by decide +kernel
theorem dX6_set_46 : decode cX6_set 46 = .ok (.ireturn, 1) := by decide +kernel
theorem dX6_set_47 : decode cX6_set 47 = .ok (.iload_n 3, 1) := by decide +kernel
theorem dX6_set_48 : decode cX6_set 48 = .ok (.iload_n 2, 1) := by decide +kernel
theorem dX6_set_49 : decode cX6_set 49 = .ok (.iconst 1, 1) := by decide +kernel
theorem dX6_set_50 : decode cX6_set 50 = .ok (.if_icmp .gt 8, 3) := by decide +kernel
theorem dX6_set_53 : decode cX6_set 53 = .ok (.bipush 100, 2) := by decide +kernel
theorem dX6_set_55 : decode cX6_set 55 = .ok (.goto 5, 3) := by decide +kernel
theorem dX6_set_58 : decode cX6_set 58 = .ok (.bipush 99, 2) := by decide +kernel
theorem dX6_set_60 : decode cX6_set 60 = .ok (.if_icmp .le 10, 3) := by decide +kernel
theorem dX6_set_63 : decode cX6_set 63 = .ok (.aload_n 0, 1) := by decide +kernel
theorem dX6_set_64 : decode cX6_set 64 = .ok (.bipush (-6), 2) := by decide +kernel
theorem dX6_set_66 : decode cX6_set 66 = .ok (.invokevirtual 44, 3) := by decide +kernel
theorem dX6_set_69 : decode cX6_set 69 = .ok (.ireturn, 1) := by decide +kernel
theorem dX6_set_70 : decode cX6_set 70 = .ok (.aload_n 0, 1) := by decide +kernel
theorem dX6_set_71 : decode cX6_set 71 = .ok (.getfield 10, 3) := by decide +kernel
theorem dX6_set_74 : decode cX6_set 74 = .ok (.getfield 63, 3) := by decide +kernel
theorem dX6_set_77 : decode cX6_set 77 = .ok (.iload_n 2, 1) := by decide +kernel
theorem dX6_set_78 : decode cX6_set 78 = .ok (.invokevirtual 80, 3) := by decide +kernel
theorem dX6_set_81 : decode cX6_set 81 = .ok (.astore 4, 2) := by decide +kernel
theorem dX6_set_83 : decode cX6_set 83 = .ok (.aload 4, 2) := by decide +kernel
theorem dX6_set_85 : decode cX6_set 85 = .ok (.iload_n 1, 1) := by decide +kernel
theorem dX6_set_86 : decode cX6_set 86 = .ok (.iaload, 1) := by decide +kernel
theorem dX6_set_87 : decode cX6_set 87 = .ok (.istore 5, 2) := by decide +kernel
theorem dX6_set_89 : decode cX6_set 89 = .ok (.aload 4, 2) := by decide +kernel
theorem dX6_set_91 : decode cX6_set 91 = .ok (.iload_n 1, 1) := by decide +kernel
theorem dX6_set_92 : decode cX6_set 92 = .ok (.iload_n 3, 1) := by decide +kernel
theorem dX6_set_93 : decode cX6_set 93 = .ok (.iastore, 1) := by decide +kernel
theorem dX6_set_94 : decode cX6_set 94 = .ok (.iload 5, 2) := by decide +kernel
theorem dX6_set_96 : decode cX6_set 96 = .ok (.ireturn, 1) := by decide +kernel
theorem dX6_way_0 : decode cX6_way 0 = .ok (.iload_n 3, 1) := by decide +kernel
theorem dX6_way_1 : decode cX6_way 1 = .ok (.bipush 10, 2) := by decide +kernel
theorem dX6_way_3 : decode cX6_way 3 = .ok (.irem, 1) := by decide +kernel
theorem dX6_way_4 : decode cX6_way 4 = .ok (.ifCond .eq 9, 3) := by decide +kernel
theorem dX6_way_7 : decode cX6_way 7 = .ok (.aload_n 0, 1) := by decide +kernel
theorem dX6_way_8 : decode cX6_way 8 = .ok (.iconst (-1), 1) := by decide +kernel
theorem dX6_way_9 : decode cX6_way 9 = .ok (.invokevirtual 44, 3) := by decide +kernel
theorem dX6_way_12 : decode cX6_way 12 = .ok (.ireturn, 1) := by decide +kernel
theorem dX6_way_13 : decode cX6_way 13 = .ok (.aload_n 0, 1) := by decide +kernel
theorem dX6_way_14 : decode cX6_way 14 = .ok (.aload_n 0, 1) := by decide +kernel
theorem dX6_way_15 : decode cX6_way 15 = .ok (.getfield 10, 3) := by decide +kernel
theorem dX6_way_18 : decode cX6_way 18 = .ok (.iload_n 1, 1) := by decide +kernel
theorem dX6_way_19 : decode cX6_way 19 = .ok (.iload_n 2, 1) := by decide +kernel
theorem dX6_way_20 : decode cX6_way 20 = .ok (.iload_n 3, 1) := by decide +kernel
theorem dX6_way_21 : decode cX6_way 21 = .ok (.bipush 100, 2) := by decide +kernel
theorem dX6_way_23 : decode cX6_way 23 = .ok (.idiv, 1) := by decide +kernel
theorem dX6_way_24 : decode cX6_way 24 = .ok (.iload_n 3, 1) := by decide +kernel
theorem dX6_way_25 : decode cX6_way 25 = .ok (.bipush 10, 2) := by decide +kernel
theorem dX6_way_27 : decode cX6_way 27 = .ok (.idiv, 1) := by decide +kernel
theorem dX6_way_28 : decode cX6_way 28 = .ok (.bipush 10, 2) := by decide +kernel
theorem dX6_way_30 : decode cX6_way 30 = .ok (.irem, 1) := by decide +kernel
theorem dX6_way_31 : decode cX6_way 31 = .ok (.iload 4, 2) := by decide +kernel
theorem dX6_way_33 : decode cX6_way 33 = .ok (.invokevirtual 84, 3) := by decide +kernel
theorem dX6_way_36 : decode cX6_way 36 = .ok (.invokevirtual 73, 3) := by decide +kernel
theorem dX6_way_39 : decode cX6_way 39 = .ok (.ireturn, 1) := by decide +kernel
theorem dX6_shut_0 : decode cX6_shut 0 = .ok (.aload_n 0, 1) := by decide +kernel
theorem dX6_shut_1 : decode cX6_shut 1 = .ok (.getfield 10, 3) := by decide +kernel
theorem dX6_shut_4 : decode cX6_shut 4 = .ok (.getfield 88, 3) := by decide +kernel
theorem dX6_shut_7 : decode cX6_shut 7 = .ok (.iload_n 1, 1) := by decide +kernel
theorem dX6_shut_8 : decode cX6_shut 8 = .ok (.invokevirtual 92, 3) := by decide +kernel
theorem dX6_shut_11 : decode cX6_shut 11 = .ok (.ifCond .ne 9, 3) := by decide +kernel
theorem dX6_shut_14 : decode cX6_shut 14 = .ok (.aload_n 0, 1) := by decide +kernel
theorem dX6_shut_15 : decode cX6_shut 15 = .ok (.iconst (-1), 1) := by decide +kernel
theorem dX6_shut_16 : decode cX6_shut 16 = .ok (.invokevirtual 44, 3) := by decide +kernel
theorem dX6_shut_19 : decode cX6_shut 19 = .ok (.ireturn, 1) := by decide +kernel
theorem dX6_shut_20 : decode cX6_shut 20 = .ok (.aload_n 0, 1) := by decide +kernel
theorem dX6_shut_21 : decode cX6_shut 21 = .ok (.getfield 10, 3) := by decide +kernel
theorem dX6_shut_24 : decode cX6_shut 24 = .ok (.getfield 88, 3) := by decide +kernel
theorem dX6_shut_27 : decode cX6_shut 27 = .ok (.iload_n 1, 1) := by decide +kernel
theorem dX6_shut_28 : decode cX6_shut 28 = .ok (.invokevirtual 95, 3) := by decide +kernel
theorem dX6_shut_31 : decode cX6_shut 31 = .ok (.iload_n 2, 1) := by decide +kernel
theorem dX6_shut_32 : decode cX6_shut 32 = .ok (.if_icmp .ne 5, 3) := by decide +kernel
theorem dX6_shut_35 : decode cX6_shut 35 = .ok (.iconst 0, 1) := by decide +kernel
theorem dX6_shut_36 : decode cX6_shut 36 = .ok (.ireturn, 1) := by decide +kernel
theorem dX6_shut_37 : decode cX6_shut 37 = .ok (.aload_n 0, 1) := by decide +kernel
theorem dX6_shut_38 : decode cX6_shut 38 = .ok (.getfield 10, 3) := by decide +kernel
theorem dX6_shut_41 : decode cX6_shut 41 = .ok (.getfield 88, 3) := by decide +kernel
theorem dX6_shut_44 : decode cX6_shut 44 = .ok (.iload_n 1, 1) := by decide +kernel
theorem dX6_shut_45 : decode cX6_shut 45 = .ok (.invokevirtual 98, 3) := by decide +kernel
theorem dX6_shut_48 : decode cX6_shut 48 = .ok (.iconst 1, 1) := by decide +kernel
theorem dX6_shut_49 : decode cX6_shut 49 = .ok (.ireturn, 1) := by decide +kernel
theorem dX6_river_0 : decode cX6_river 0 = .ok (.aload_n 0, 1) := by decide +kernel
theorem dX6_river_1 : decode cX6_river 1 = .ok (.aload_n 0, 1) := by decide +kernel
theorem dX6_river_2 : decode cX6_river 2 = .ok (.getfield 10, 3) := by decide +kernel
theorem dX6_river_5 : decode cX6_river 5 = .ok (.iload_n 1, 1) := by decide +kernel
theorem dX6_river_6 : decode cX6_river 6 = .ok (.iload_n 2, 1) := by decide +kernel
theorem dX6_river_7 : decode cX6_river 7 = .ok (.iload_n 3, 1) := by decide +kernel
theorem dX6_river_8 : decode cX6_river 8 = .ok (.invokevirtual 101, 3) := by decide +kernel
theorem dX6_river_11 : decode cX6_river 11 = .ok (.invokevirtual 73, 3) := by decide +kernel
theorem dX6_river_14 : decode cX6_river 14 = .ok (.ireturn, 1) := by decide +kernel
theorem dX6_moon_0 : decode cX6_moon 0 = .ok (.iload_n 1, 1) := by decide +kernel
theorem dX6_moon_1 : decode cX6_moon 1 = .ok (.iconst 1, 1) := by decide +kernel
theorem dX6_moon_2 : decode cX6_moon 2 = .ok (.if_icmp .ge 10, 3) := by decide +kernel
theorem dX6_moon_5 : decode cX6_moon 5 = .ok (.aload_n 0, 1) := by decide +kernel
theorem dX6_moon_6 : decode cX6_moon 6 = .ok (.bipush (-4), 2) := by decide +kernel
theorem dX6_moon_8 : decode cX6_moon 8 = .ok (.invokevirtual 44, 3) := by decide +kernel
theorem dX6_moon_11 : decode cX6_moon 11 = .ok (.ireturn, 1) := by decide +kernel
theorem dX6_moon_12 : decode cX6_moon 12 = .ok (.iload_n 1, 1) := by decide +kernel
theorem dX6_moon_13 : decode cX6_moon 13 = .ok (.bipush 28, 2) := by decide +kernel
theorem dX6_moon_15 : decode cX6_moon 15 = .ok (.if_icmp .le 10, 3) := by decide +kernel
theorem dX6_moon_18 : decode cX6_moon 18 = .ok (.aload_n 0, 1) := by decide +kernel
theorem dX6_moon_19 : decode cX6_moon 19 = .ok (.bipush (-6), 2) := by decide +kernel
theorem dX6_moon_21 : decode cX6_moon 21 = .ok (.invokevirtual 44, 3) := by decide +kernel
theorem dX6_moon_24 : decode cX6_moon 24 = .ok (.ireturn, 1) := by decide +kernel
theorem dX6_moon_25 : decode cX6_moon 25 = .ok (.aload_n 0, 1) := by decide +kernel
theorem dX6_moon_26 : decode cX6_moon 26 = .ok (.getfield 10, 3) := by decide +kernel
theorem dX6_moon_29 : decode cX6_moon 29 = .ok (.getfield 105, 3) := by decide +kernel
theorem dX6_moon_32 : decode cX6_moon 32 = .ok (.istore_n 3, 1) := by decide +kernel
theorem dX6_moon_33 : decode cX6_moon 33 = .ok (.aload_n 0, 1) := by decide +kernel
theorem dX6_moon_34 : decode cX6_moon 34 = .ok (.getfield 10, 3) := by decide +kernel
theorem dX6_moon_37 : decode cX6_moon 37 = .ok (.iload_n 1, 1) := by decide +kernel
theorem dX6_moon_38 : decode cX6_moon 38 = .ok (.iload_n 2, 1) := by decide +kernel
theorem dX6_moon_39 : decode cX6_moon 39 = .ok (.invokevirtual 108, 3) := by decide +kernel
theorem dX6_moon_42 : decode cX6_moon 42 = .ok (.iload_n 3, 1) := by decide +kernel
theorem dX6_moon_43 : decode cX6_moon 43 = .ok (.ireturn, 1) := by decide +kernel
theorem dX6_put_0 : decode cX6_put 0 = .ok (.aload_n 0, 1) := by decide +kernel
theorem dX6_put_1 : decode cX6_put 1 = .ok (.getfield 10, 3) := by decide +kernel
theorem dX6_put_4 : decode cX6_put 4 = .ok (.getfield 63, 3) := by decide +kernel
theorem dX6_put_7 : decode cX6_put 7 = .ok (.iload_n 1, 1) := by decide +kernel
theorem dX6_put_8 : decode cX6_put 8 = .ok (.invokevirtual 76, 3) := by decide +kernel
theorem dX6_put_11 : decode cX6_put 11 = .ok (.ifCond .eq 10, 3) := by decide +kernel
theorem dX6_put_14 : decode cX6_put 14 = .ok (.iload_n 2, 1) := by decide +kernel
theorem dX6_put_15 : decode cX6_put 15 = .ok (.invokestatic 112, 3) := by decide +kernel
theorem dX6_put_18 : decode cX6_put 18 = .ok (.ifCond .ne 9, 3) := by decide +kernel
theorem dX6_put_21 : decode cX6_put 21 = .ok (.aload_n 0, 1) := by decide +kernel
theorem dX6_put_22 : decode cX6_put 22 = .ok (.iconst (-1), 1) := by decide +kernel
theorem dX6_put_23 : decode cX6_put 23 = .ok (.invokevirtual 44, 3) := by decide +kernel
theorem dX6_put_26 : decode cX6_put 26 = .ok (.ireturn, 1) := by decide +kernel
theorem dX6_put_27 : decode cX6_put 27 = .ok (.iload 4, 2) := by decide +kernel
theorem dX6_put_29 : decode cX6_put 29 = .ok (.sipush (-9999), 3) := by decide +kernel
theorem dX6_put_32 : decode cX6_put 32 = .ok (.if_icmp .ge 10, 3) := by decide +kernel
theorem dX6_put_35 : decode cX6_put 35 = .ok (.aload_n 0, 1) := by decide +kernel
theorem dX6_put_36 : decode cX6_put 36 = .ok (.bipush (-4), 2) := by decide +kernel
theorem dX6_put_38 : decode cX6_put 38 = .ok (.invokevirtual 44, 3) := by decide +kernel
theorem dX6_put_41 : decode cX6_put 41 = .ok (.ireturn, 1) := by decide +kernel
theorem dX6_put_42 : decode cX6_put 42 = .ok (.iload 4, 2) := by decide +kernel
theorem dX6_put_44 : decode cX6_put 44 = .ok (.sipush 9999, 3) := by decide +kernel
theorem dX6_put_47 : decode cX6_put 47 = .ok (.if_icmp .le 10, 3) := by decide +kernel
theorem dX6_put_50 : decode cX6_put 50 = .ok (.aload_n 0, 1) := by decide +kernel
theorem dX6_put_51 : decode cX6_put 51 = .ok (.bipush (-6), 2) := by decide +kernel
theorem dX6_put_53 : decode cX6_put 53 = .ok (.invokevirtual 44, 3) := by decide +kernel
theorem dX6_put_56 : decode cX6_put 56 = .ok (.ireturn, 1) := by decide +kernel
theorem dX6_put_57 : decode cX6_put 57 = .ok (.aload_n 0, 1) := by decide +kernel
theorem dX6_put_58 : decode cX6_put 58 = .ok (.getfield 10, 3) := by decide +kernel
theorem dX6_put_61 : decode cX6_put 61 = .ok (.getfield 63, 3) := by decide +kernel
theorem dX6_put_64 : decode cX6_put 64 = .ok (.iload_n 3, 1) := by decide +kernel
theorem dX6_put_65 : decode cX6_put 65 = .ok (.invokevirtual 115, 3) := by decide +kernel
theorem dX6_put_68 : decode cX6_put 68 = .ok (.astore 5, 2) := by decide +kernel
theorem dX6_put_70 : decode cX6_put 70 = .ok (.iload_n 1, 1) := by decide +kernel
theorem dX6_put_71 : decode cX6_put 71 = .ok (.iload_n 2, 1) := by decide +kernel
theorem dX6_put_72 : decode cX6_put 72 = .ok (.invokestatic 119, 3) := by decide +kernel
theorem dX6_put_75 : decode cX6_put 75 = .ok (.istore 6, 2) := by decide +kernel
theorem dX6_put_77 : decode cX6_put 77 = .ok (.iconst 0, 1) := by decide +kernel
theorem dX6_put_78 : decode cX6_put 78 = .ok (.aload 5, 2) := by decide +kernel
theorem dX6_put_80 : decode cX6_put 80 = .ok (.iload 6, 2) := by decide +kernel
theorem dX6_put_82 : decode cX6_put 82 = .ok (.iaload, 1) := by decide +kernel
theorem dX6_put_83 : decode cX6_put 83 = .ok (.iload 4, 2) := by decide +kernel
theorem dX6_put_85 : decode cX6_put 85 = .ok (.iadd, 1) := by decide +kernel
theorem dX6_put_86 : decode cX6_put 86 = .ok (.invokestatic 122, 3) := by decide +kernel
theorem dX6_put_89 : decode cX6_put 89 = .ok (.istore 7, 2) := by decide +kernel
theorem dX6_put_91 : decode cX6_put 91 = .ok (.iload 7, 2) := by decide +kernel
theorem dX6_put_93 : decode cX6_put 93 = .ok (.ldc 127, 2) := by decide +kernel
theorem dX6_put_95 : decode cX6_put 95 = .ok (.if_icmp .le 10, 3) := by decide +kernel
theorem dX6_put_98 : decode cX6_put 98 = .ok (.aload_n 0, 1) := by decide +kernel
theorem dX6_put_99 : decode cX6_put 99 = .ok (.bipush (-6), 2) := by decide +kernel
theorem dX6_put_101 : decode cX6_put 101 = .ok (.invokevirtual 44, 3) := by decide +kernel
theorem dX6_put_104 : decode cX6_put 104 = .ok (.ireturn, 1) := by decide +kernel
theorem dX6_put_105 : decode cX6_put 105 = .ok (.aload 5, 2) := by decide +kernel
theorem dX6_put_107 : decode cX6_put 107 = .ok (.iload 6, 2) := by decide +kernel
theorem dX6_put_109 : decode cX6_put 109 = .ok (.iload 7, 2) := by decide +kernel
theorem dX6_put_111 : decode cX6_put 111 = .ok (.iastore, 1) := by decide +kernel
theorem dX6_put_112 : decode cX6_put 112 = .ok (.iload 7, 2) := by decide +kernel
theorem dX6_put_114 : decode cX6_put 114 = .ok (.ireturn, 1) := by decide +kernel
theorem dX6_tons_0 : decode cX6_tons 0 = .ok (.aload_n 0, 1) := by decide +kernel
theorem dX6_tons_1 : decode cX6_tons 1 = .ok (.getfield 10, 3) := by decide +kernel
theorem dX6_tons_4 : decode cX6_tons 4 = .ok (.getfield 63, 3) := by decide +kernel
theorem dX6_tons_7 : decode cX6_tons 7 = .ok (.iload_n 1, 1) := by decide +kernel
theorem dX6_tons_8 : decode cX6_tons 8 = .ok (.invokevirtual 76, 3) := by decide +kernel
theorem dX6_tons_11 : decode cX6_tons 11 = .ok (.ifCond .eq 10, 3) := by decide +kernel
theorem dX6_tons_14 : decode cX6_tons 14 = .ok (.iload_n 2, 1) := by decide +kernel
theorem dX6_tons_15 : decode cX6_tons 15 = .ok (.invokestatic 112, 3) := by decide +kernel
theorem dX6_tons_18 : decode cX6_tons 18 = .ok (.ifCond .ne 9, 3) := by decide +kernel
theorem dX6_tons_21 : decode cX6_tons 21 = .ok (.aload_n 0, 1) := by decide +kernel
theorem dX6_tons_22 : decode cX6_tons 22 = .ok (.iconst (-1), 1) := by decide +kernel
theorem dX6_tons_23 : decode cX6_tons 23 = .ok (.invokevirtual 44, 3) := by decide +kernel
theorem dX6_tons_26 : decode cX6_tons 26 = .ok (.ireturn, 1) := by decide +kernel
theorem dX6_tons_27 : decode cX6_tons 27 = .ok (.aload_n 0, 1) := by decide +kernel
theorem dX6_tons_28 : decode cX6_tons 28 = .ok (.getfield 10, 3) := by decide +kernel
theorem dX6_tons_31 : decode cX6_tons 31 = .ok (.getfield 63, 3) := by decide +kernel
theorem dX6_tons_34 : decode cX6_tons 34 = .ok (.iload_n 3, 1) := by decide +kernel
theorem dX6_tons_35 : decode cX6_tons 35 = .ok (.invokevirtual 115, 3) := by decide +kernel
theorem dX6_tons_38 : decode cX6_tons 38 = .ok (.iload_n 1, 1) := by decide +kernel
theorem dX6_tons_39 : decode cX6_tons 39 = .ok (.iload_n 2, 1) := by decide +kernel
theorem dX6_tons_40 : decode cX6_tons 40 = .ok (.invokestatic 119, 3) := by decide +kernel
theorem dX6_tons_43 : decode cX6_tons 43 = .ok (.iaload, 1) := by decide +kernel
theorem dX6_tons_44 : decode cX6_tons 44 = .ok (.ireturn, 1) := by decide +kernel
theorem dX6_depth_0 : decode cX6_depth 0 = .ok (.aload_n 0, 1) := by decide +kernel
theorem dX6_depth_1 : decode cX6_depth 1 = .ok (.getfield 10, 3) := by decide +kernel
theorem dX6_depth_4 : decode cX6_depth 4 = .ok (.getfield 63, 3) := by decide +kernel
theorem dX6_depth_7 : decode cX6_depth 7 = .ok (.iload_n 1, 1) := by decide +kernel
theorem dX6_depth_8 : decode cX6_depth 8 = .ok (.invokevirtual 76, 3) := by decide +kernel
theorem dX6_depth_11 : decode cX6_depth 11 = .ok (.ifCond .ne 9, 3) := by decide +kernel
theorem dX6_depth_14 : decode cX6_depth 14 = .ok (.aload_n 0, 1) := by decide +kernel
theorem dX6_depth_15 : decode cX6_depth 15 = .ok (.iconst (-1), 1) := by decide +kernel
theorem dX6_depth_16 : decode cX6_depth 16 = .ok (.invokevirtual 44, 3) := by decide +kernel
theorem dX6_depth_19 : decode cX6_depth 19 = .ok (.ireturn, 1) := by decide +kernel
theorem dX6_depth_20 : decode cX6_depth 20 = .ok (.aload_n 0, 1) := by decide +kernel
theorem dX6_depth_21 : decode cX6_depth 21 = .ok (.getfield 10, 3) := by decide +kernel
theorem dX6_depth_24 : decode cX6_depth 24 = .ok (.getfield 63, 3) := by decide +kernel
theorem dX6_depth_27 : decode cX6_depth 27 = .ok (.iload_n 1, 1) := by decide +kernel
theorem dX6_depth_28 : decode cX6_depth 28 = .ok (.invokevirtual 128, 3) := by decide +kernel
theorem dX6_depth_31 : decode cX6_depth 31 = .ok (.ireturn, 1) := by decide +kernel
theorem dX6_lacks_0 : decode cX6_lacks 0 = .ok (.aload_n 0, 1) := by decide +kernel
theorem dX6_lacks_1 : decode cX6_lacks 1 = .ok (.getfield 10, 3) := by decide +kernel
theorem dX6_lacks_4 : decode cX6_lacks 4 = .ok (.getfield 63, 3) := by decide +kernel
theorem dX6_lacks_7 : decode cX6_lacks 7 = .ok (.iload_n 1, 1) := by decide +kernel
theorem dX6_lacks_8 : decode cX6_lacks 8 = .ok (.invokevirtual 76, 3) := by decide +kernel
theorem dX6_lacks_11 : decode cX6_lacks 11 = .ok (.ifCond .ne 12, 3) := by decide +kernel
theorem dX6_lacks_14 : decode cX6_lacks 14 = .ok (.ldc 131, 2) := by decide +kernel
theorem dX6_lacks_16 : decode cX6_lacks 16 = .ok (.aload_n 0, 1) := by decide +kernel
theorem dX6_lacks_17 : decode cX6_lacks 17 = .ok (.iconst (-1), 1) := by decide +kernel
theorem dX6_lacks_18 : decode cX6_lacks 18 = .ok (.invokevirtual 44, 3) := by decide +kernel
theorem dX6_lacks_21 : decode cX6_lacks 21 = .ok (.iadd, 1) := by decide +kernel
theorem dX6_lacks_22 : decode cX6_lacks 22 = .ok (.ireturn, 1) := by decide +kernel
theorem dX6_lacks_23 : decode cX6_lacks 23 = .ok (.aload_n 0, 1) := by decide +kernel
theorem dX6_lacks_24 : decode cX6_lacks 24 = .ok (.getfield 10, 3) := by decide +kernel
theorem dX6_lacks_27 : decode cX6_lacks 27 = .ok (.getfield 63, 3) := by decide +kernel
theorem dX6_lacks_30 : decode cX6_lacks 30 = .ok (.iload_n 1, 1) := by decide +kernel
theorem dX6_lacks_31 : decode cX6_lacks 31 = .ok (.invokevirtual 132, 3) := by decide +kernel
theorem dX6_lacks_34 : decode cX6_lacks 34 = .ok (.ireturn, 1) := by decide +kernel
theorem dX6_dredger_0 : decode cX6_dredger 0 = .ok (.iload_n 1, 1) := by decide +kernel
theorem dX6_dredger_1 : decode cX6_dredger 1 = .ok (.ifCond .lt 8, 3) := by decide +kernel
theorem dX6_dredger_4 : decode cX6_dredger 4 = .ok (.iload_n 1, 1) := by decide +kernel
theorem dX6_dredger_5 : decode cX6_dredger 5 = .ok (.iconst 4, 1) := by decide +kernel
theorem dX6_dredger_6 : decode cX6_dredger 6 = .ok (.if_icmp .le 10, 3) := by decide +kernel
theorem dX6_dredger_9 : decode cX6_dredger 9 = .ok (.aload_n 0, 1) := by decide +kernel
theorem dX6_dredger_10 : decode cX6_dredger 10 = .ok (.bipush (-2), 2) := by decide +kernel
theorem dX6_dredger_12 : decode cX6_dredger 12 = .ok (.invokevirtual 44, 3) := by decide +kernel
theorem dX6_dredger_15 : decode cX6_dredger 15 = .ok (.ireturn, 1) := by decide +kernel
theorem dX6_dredger_16 : decode cX6_dredger 16 = .ok (.iload_n 1, 1) := by decide +kernel
theorem dX6_dredger_17 : decode cX6_dredger 17 = .ok (.iconst 1, 1) := by decide +kernel
theorem dX6_dredger_18 : decode cX6_dredger 18 = .ok (.if_icmp .eq 8, 3) := by decide +kernel
theorem dX6_dredger_21 : decode cX6_dredger 21 = .ok (.iload_n 1, 1) := by decide +kernel
theorem dX6_dredger_22 : decode cX6_dredger 22 = .ok (.iconst 3, 1) := by decide +kernel
theorem dX6_dredger_23 : decode cX6_dredger 23 = .ok (.if_icmp .ne 59, 3) := by decide +kernel
theorem dX6_dredger_26 : decode cX6_dredger 26 = .ok (.aload_n 0, 1) := by decide +kernel
theorem dX6_dredger_27 : decode cX6_dredger 27 = .ok (.getfield 10, 3) := by decide +kernel
theorem dX6_dredger_30 : decode cX6_dredger 30 = .ok (.getfield 63, 3) := by decide +kernel
theorem dX6_dredger_33 : decode cX6_dredger 33 = .ok (.iload_n 2, 1) := by decide +kernel
theorem dX6_dredger_34 : decode cX6_dredger 34 = .ok (.invokevirtual 76, 3) := by decide +kernel
theorem dX6_dredger_37 : decode cX6_dredger 37 = .ok (.ifCond .ne 14, 3) := by decide +kernel
theorem dX6_dredger_40 : decode cX6_dredger 40 = .ok (.iload_n 1, 1) := by decide +kernel
theorem dX6_dredger_41 : decode cX6_dredger 41 = .ok (.iconst 1, 1) := by decide +kernel
theorem dX6_dredger_42 : decode cX6_dredger 42 = .ok (.if_icmp .ne 13, 3) := by decide +kernel
theorem dX6_dredger_45 : decode cX6_dredger 45 = .ok (.iload_n 2, 1) := by decide +kernel
theorem dX6_dredger_46 : decode cX6_dredger 46 = .ok (.bipush 8, 2) := by decide +kernel
theorem dX6_dredger_48 : decode cX6_dredger 48 = .ok (.if_icmp .ne 7, 3) := by decide +kernel
theorem dX6_dredger_51 : decode cX6_dredger 51 = .ok (.iconst 1, 1) := by decide +kernel
theorem dX6_dredger_52 : decode cX6_dredger 52 = .ok (.goto 4, 3) := by decide +kernel
theorem dX6_dredger_55 : decode cX6_dredger 55 = .ok (.iconst 0, 1) := by decide +kernel
theorem dX6_dredger_56 : decode cX6_dredger 56 = .ok (.istore_n 3, 1) := by decide +kernel
theorem dX6_dredger_57 : decode cX6_dredger 57 = .ok (.iload_n 3, 1) := by decide +kernel
theorem dX6_dredger_58 : decode cX6_dredger 58 = .ok (.ifCond .eq 18, 3) := by decide +kernel
theorem dX6_dredger_61 : decode cX6_dredger 61 = .ok (.aload_n 0, 1) := by decide +kernel
theorem dX6_dredger_62 : decode cX6_dredger 62 = .ok (.getfield 10, 3) := by decide +kernel
theorem dX6_dredger_65 : decode cX6_dredger 65 = .ok (.getfield 137, 3) := by decide +kernel
theorem dX6_dredger_68 : decode cX6_dredger 68 = .ok (.iload_n 1, 1) := by decide +kernel
theorem dX6_dredger_69 : decode cX6_dredger 69 = .ok (.iload_n 2, 1) := by decide +kernel
theorem dX6_dredger_70 : decode cX6_dredger 70 = .ok (.invokevirtual 141, 3) := by decide +kernel
theorem dX6_dredger_73 : decode cX6_dredger 73 = .ok (.goto 8, 3) := by decide +kernel
theorem dX6_dredger_76 : decode cX6_dredger 76 = .ok (.aload_n 0, 1) := by decide +kernel
theorem dX6_dredger_77 : decode cX6_dredger 77 = .ok (.iconst (-1), 1) := by decide +kernel
theorem dX6_dredger_78 : decode cX6_dredger 78 = .ok (.invokevirtual 44, 3) := by decide +kernel
theorem dX6_dredger_81 : decode cX6_dredger 81 = .ok (.ireturn, 1) := by decide +kernel
theorem dX6_dredger_82 : decode cX6_dredger 82 = .ok (.iload_n 2, 1) := by decide +kernel
theorem dX6_dredger_83 : decode cX6_dredger 83 = .ok (.ifCond .ge 10, 3) := by decide +kernel
theorem dX6_dredger_86 : decode cX6_dredger 86 = .ok (.aload_n 0, 1) := by decide +kernel
theorem dX6_dredger_87 : decode cX6_dredger 87 = .ok (.bipush (-4), 2) := by decide +kernel
theorem dX6_dredger_89 : decode cX6_dredger 89 = .ok (.invokevirtual 44, 3) := by decide +kernel
theorem dX6_dredger_92 : decode cX6_dredger 92 = .ok (.ireturn, 1) := by decide +kernel
theorem dX6_dredger_93 : decode cX6_dredger 93 = .ok (.iload_n 2, 1) := by decide +kernel
theorem dX6_dredger_94 : decode cX6_dredger 94 = .ok (.iload_n 1, 1) := by decide +kernel
theorem dX6_dredger_95 : decode cX6_dredger 95 = .ok (.invokestatic 144, 3) := by decide +kernel
theorem dX6_dredger_98 : decode cX6_dredger 98 = .ok (.if_icmp .le 10, 3) := by decide +kernel
theorem dX6_dredger_101 : decode cX6_dredger 101 = .ok (.aload_n 0, 1) := by decide +kernel
theorem dX6_dredger_102 : decode cX6_dredger 102 = .ok (.bipush (-6), 2) := by decide +kernel
theorem dX6_dredger_104 : decode cX6_dredger 104 = .ok (.invokevirtual 44, 3) := by decide +kernel
theorem dX6_dredger_107 : decode cX6_dredger 107 = .ok (.ireturn, 1) := by decide +kernel
theorem dX6_dredger_108 : decode cX6_dredger 108 = .ok (.aload_n 0, 1) := by decide +kernel
theorem dX6_dredger_109 : decode cX6_dredger 109 = .ok (.getfield 10, 3) := by decide +kernel
theorem dX6_dredger_112 : decode cX6_dredger 112 = .ok (.getfield 137, 3) := by decide +kernel
theorem dX6_dredger_115 : decode cX6_dredger 115 = .ok (.iload_n 1, 1) := by decide +kernel
theorem dX6_dredger_116 : decode cX6_dredger 116 = .ok (.iload_n 2, 1) := by decide +kernel
theorem dX6_dredger_117 : decode cX6_dredger 117 = .ok (.invokevirtual 141, 3) := by decide +kernel
theorem dX6_dredger_120 : decode cX6_dredger 120 = .ok (.ireturn, 1) := by decide +kernel
theorem dX6_takes_0 : decode cX6_takes 0 = .ok (.aload_n 0, 1) := by decide +kernel
theorem dX6_takes_1 : decode cX6_takes 1 = .ok (.getfield 10, 3) := by decide +kernel
theorem dX6_takes_4 : decode cX6_takes 4 = .ok (.getfield 63, 3) := by decide +kernel
theorem dX6_takes_7 : decode cX6_takes 7 = .ok (.getfield 147, 3) := by decide +kernel
theorem dX6_takes_10 : decode cX6_takes 10 = .ok (.ifCond .ne 10, 3) := by decide +kernel
theorem dX6_takes_13 : decode cX6_takes 13 = .ok (.aload_n 0, 1) := by decide +kernel
theorem dX6_takes_14 : decode cX6_takes 14 = .ok (.bipush (-3), 2) := by decide +kernel
theorem dX6_takes_16 : decode cX6_takes 16 = .ok (.invokevirtual 44, 3) := by decide +kernel
theorem dX6_takes_19 : decode cX6_takes 19 = .ok (.ireturn, 1) := by decide +kernel
theorem dX6_takes_20 : decode cX6_takes 20 = .ok (.aload_n 0, 1) := by decide +kernel
theorem dX6_takes_21 : decode cX6_takes 21 = .ok (.getfield 10, 3) := by decide +kernel
theorem dX6_takes_24 : decode cX6_takes 24 = .ok (.aload_n 0, 1) := by decide +kernel
theorem dX6_takes_25 : decode cX6_takes 25 = .ok (.getfield 10, 3) := by decide +kernel
theorem dX6_takes_28 : decode cX6_takes 28 = .ok (.invokevirtual 150, 3) := by decide +kernel
theorem dX6_takes_31 : decode cX6_takes 31 = .ok (.invokevirtual 154, 3) := by decide +kernel
theorem dX6_takes_34 : decode cX6_takes 34 = .ok (.istore_n 1, 1) := by decide +kernel
theorem dX6_takes_35 : decode cX6_takes 35 = .ok (.iload_n 1, 1) := by decide +kernel
theorem dX6_takes_36 : decode cX6_takes 36 = .ok (.aload_n 0, 1) := by decide +kernel
theorem dX6_takes_37 : decode cX6_takes 37 = .ok (.getfield 10, 3) := by decide +kernel
theorem dX6_takes_40 : decode cX6_takes 40 = .ok (.getfield 137, 3) := by decide +kernel
theorem dX6_takes_43 : decode cX6_takes 43 = .ok (.getfield 157, 3) := by decide +kernel
theorem dX6_takes_46 : decode cX6_takes 46 = .ok (.if_icmp .ne 8, 3) := by decide +kernel
theorem dX6_takes_49 : decode cX6_takes 49 = .ok (.bipush (-9), 2) := by decide +kernel
theorem dX6_takes_51 : decode cX6_takes 51 = .ok (.goto 4, 3) := by decide +kernel
theorem dX6_takes_54 : decode cX6_takes 54 = .ok (.iload_n 1, 1) := by decide +kernel
theorem dX6_takes_55 : decode cX6_takes 55 = .ok (.ireturn, 1) := by decide +kernel
theorem dX6_go_0 : decode cX6_go 0 = .ok (.aload_n 0, 1) := by decide +kernel
theorem dX6_go_1 : decode cX6_go 1 = .ok (.iload_n 1, 1) := by decide +kernel
theorem dX6_go_2 : decode cX6_go 2 = .ok (.invokevirtual 160, 3) := by decide +kernel
theorem dX6_go_5 : decode cX6_go 5 = .ok (.istore_n 2, 1) := by decide +kernel
theorem dX6_go_6 : decode cX6_go 6 = .ok (.iload_n 2, 1) := by decide +kernel
theorem dX6_go_7 : decode cX6_go 7 = .ok (.ifCond .ge 9, 3) := by decide +kernel
theorem dX6_go_10 : decode cX6_go 10 = .ok (.aload_n 0, 1) := by decide +kernel
theorem dX6_go_11 : decode cX6_go 11 = .ok (.iload_n 2, 1) := by decide +kernel
theorem dX6_go_12 : decode cX6_go 12 = .ok (.invokevirtual 44, 3) := by decide +kernel
theorem dX6_go_15 : decode cX6_go 15 = .ok (.ireturn, 1) := by decide +kernel
theorem dX6_go_16 : decode cX6_go 16 = .ok (.aload_n 0, 1) := by decide +kernel
theorem dX6_go_17 : decode cX6_go 17 = .ok (.getfield 10, 3) := by decide +kernel
theorem dX6_go_20 : decode cX6_go 20 = .ok (.iload_n 1, 1) := by decide +kernel
theorem dX6_go_21 : decode cX6_go 21 = .ok (.iconst (-1), 1) := by decide +kernel
theorem dX6_go_22 : decode cX6_go 22 = .ok (.invokevirtual 163, 3) := by decide +kernel
theorem dX6_go_25 : decode cX6_go 25 = .ok (.aload_n 0, 1) := by decide +kernel
theorem dX6_go_26 : decode cX6_go 26 = .ok (.getfield 10, 3) := by decide +kernel
theorem dX6_go_29 : decode cX6_go 29 = .ok (.getfield 166, 3) := by decide +kernel
theorem dX6_go_32 : decode cX6_go 32 = .ok (.ireturn, 1) := by decide +kernel
theorem dX6_cost_0 : decode cX6_cost 0 = .ok (.aload_n 0, 1) := by decide +kernel
theorem dX6_cost_1 : decode cX6_cost 1 = .ok (.iload_n 1, 1) := by decide +kernel
theorem dX6_cost_2 : decode cX6_cost 2 = .ok (.invokevirtual 160, 3) := by decide +kernel
theorem dX6_cost_5 : decode cX6_cost 5 = .ok (.istore_n 2, 1) := by decide +kernel
theorem dX6_cost_6 : decode cX6_cost 6 = .ok (.iload_n 2, 1) := by decide +kernel
theorem dX6_cost_7 : decode cX6_cost 7 = .ok (.ifCond .ge 14, 3) := by decide +kernel
theorem dX6_cost_10 : decode cX6_cost 10 = .ok (.ldc2_w 169, 3) := by decide +kernel
theorem dX6_cost_13 : decode cX6_cost 13 = .ok (.aload_n 0, 1) := by decide +kernel
theorem dX6_cost_14 : decode cX6_cost 14 = .ok (.iload_n 2, 1) := by decide +kernel
theorem dX6_cost_15 : decode cX6_cost 15 = .ok (.invokevirtual 44, 3) := by decide +kernel
theorem dX6_cost_18 : decode cX6_cost 18 = .ok (.i2l, 1) := by decide +kernel
theorem dX6_cost_19 : decode cX6_cost 19 = .ok (.ladd, 1) := by decide +kernel
theorem dX6_cost_20 : decode cX6_cost 20 = .ok (.lreturn, 1) := by decide +kernel
theorem dX6_cost_21 : decode cX6_cost 21 = .ok (.aload_n 0, 1) := by decide +kernel
theorem dX6_cost_22 : decode cX6_cost 22 = .ok (.getfield 16, 3) := by decide +kernel
theorem dX6_cost_25 : decode cX6_cost 25 = .ok (.aload_n 0, 1) := by decide +kernel
theorem dX6_cost_26 : decode cX6_cost 26 = .ok (.getfield 10, 3) := by decide +kernel
theorem dX6_cost_29 : decode cX6_cost 29 = .ok (.invokevirtual 55, 3) := by decide +kernel
theorem dX6_cost_32 : decode cX6_cost 32 = .ok (.aload_n 0, 1) := by decide +kernel
theorem dX6_cost_33 : decode cX6_cost 33 = .ok (.getfield 16, 3) := by decide +kernel
theorem dX6_cost_36 : decode cX6_cost 36 = .ok (.iload_n 1, 1) := by decide +kernel
theorem dX6_cost_37 : decode cX6_cost 37 = .ok (.ldc2_w 171, 3) := by decide +kernel
theorem dX6_cost_40 : decode cX6_cost 40 = .ok (.invokevirtual 173, 3) := by decide +kernel
theorem dX6_cost_43 : decode cX6_cost 43 = .ok (.lreturn, 1) := by decide +kernel
theorem dX6_holds_0 : decode cX6_holds 0 = .ok (.aload_n 0, 1) := by decide +kernel
theorem dX6_holds_1 : decode cX6_holds 1 = .ok (.iload_n 1, 1) := by decide +kernel
theorem dX6_holds_2 : decode cX6_holds 2 = .ok (.invokevirtual 160, 3) := by decide +kernel
theorem dX6_holds_5 : decode cX6_holds 5 = .ok (.istore_n 2, 1) := by decide +kernel
theorem dX6_holds_6 : decode cX6_holds 6 = .ok (.iload_n 2, 1) := by decide +kernel
theorem dX6_holds_7 : decode cX6_holds 7 = .ok (.ifCond .ge 9, 3) := by decide +kernel
theorem dX6_holds_10 : decode cX6_holds 10 = .ok (.aload_n 0, 1) := by decide +kernel
theorem dX6_holds_11 : decode cX6_holds 11 = .ok (.iload_n 2, 1) := by decide +kernel
theorem dX6_holds_12 : decode cX6_holds 12 = .ok (.invokevirtual 44, 3) := by decide +kernel
theorem dX6_holds_15 : decode cX6_holds 15 = .ok (.ireturn, 1) := by decide +kernel
theorem dX6_holds_16 : decode cX6_holds 16 = .ok (.aload_n 0, 1) := by decide +kernel
theorem dX6_holds_17 : decode cX6_holds 17 = .ok (.getfield 16, 3) := by decide +kernel
theorem dX6_holds_20 : decode cX6_holds 20 = .ok (.aload_n 0, 1) := by decide +kernel
theorem dX6_holds_21 : decode cX6_holds 21 = .ok (.getfield 10, 3) := by decide +kernel
theorem dX6_holds_24 : decode cX6_holds 24 = .ok (.invokevirtual 55, 3) := by decide +kernel
theorem dX6_holds_27 : decode cX6_holds 27 = .ok (.aload_n 0, 1) := by decide +kernel
theorem dX6_holds_28 : decode cX6_holds 28 = .ok (.getfield 16, 3) := by decide +kernel
theorem dX6_holds_31 : decode cX6_holds 31 = .ok (.iload_n 1, 1) := by decide +kernel
theorem dX6_holds_32 : decode cX6_holds 32 = .ok (.iconst (-1), 1) := by decide +kernel
theorem dX6_holds_33 : decode cX6_holds 33 = .ok (.invokevirtual 177, 3) := by decide +kernel
theorem dX6_holds_36 : decode cX6_holds 36 = .ok (.ireturn, 1) := by decide +kernel
theorem dX6_alone_0 : decode cX6_alone 0 = .ok (.aload_n 0, 1) := by decide +kernel
theorem dX6_alone_1 : decode cX6_alone 1 = .ok (.iload_n 1, 1) := by decide +kernel
theorem dX6_alone_2 : decode cX6_alone 2 = .ok (.invokevirtual 160, 3) := by decide +kernel
theorem dX6_alone_5 : decode cX6_alone 5 = .ok (.istore_n 2, 1) := by decide +kernel
theorem dX6_alone_6 : decode cX6_alone 6 = .ok (.iload_n 2, 1) := by decide +kernel
theorem dX6_alone_7 : decode cX6_alone 7 = .ok (.ifCond .ge 9, 3) := by decide +kernel
theorem dX6_alone_10 : decode cX6_alone 10 = .ok (.aload_n 0, 1) := by decide +kernel
theorem dX6_alone_11 : decode cX6_alone 11 = .ok (.iload_n 2, 1) := by decide +kernel
theorem dX6_alone_12 : decode cX6_alone 12 = .ok (.invokevirtual 44, 3) := by decide +kernel
theorem dX6_alone_15 : decode cX6_alone 15 = .ok (.ireturn, 1) := by decide +kernel
theorem dX6_alone_16 : decode cX6_alone 16 = .ok (.aload_n 0, 1) := by decide +kernel
theorem dX6_alone_17 : decode cX6_alone 17 = .ok (.getfield 16, 3) := by decide +kernel
theorem dX6_alone_20 : decode cX6_alone 20 = .ok (.aload_n 0, 1) := by decide +kernel
theorem dX6_alone_21 : decode cX6_alone 21 = .ok (.getfield 10, 3) := by decide +kernel
theorem dX6_alone_24 : decode cX6_alone 24 = .ok (.invokevirtual 55, 3) := by decide +kernel
theorem dX6_alone_27 : decode cX6_alone 27 = .ok (.aload_n 0, 1) := by decide +kernel
theorem dX6_alone_28 : decode cX6_alone 28 = .ok (.getfield 16, 3) := by decide +kernel
theorem dX6_alone_31 : decode cX6_alone 31 = .ok (.iload_n 1, 1) := by decide +kernel
theorem dX6_alone_32 : decode cX6_alone 32 = .ok (.bipush 9, 2) := by decide +kernel
theorem dX6_alone_34 : decode cX6_alone 34 = .ok (.invokevirtual 177, 3) := by decide +kernel
theorem dX6_alone_37 : decode cX6_alone 37 = .ok (.ireturn, 1) := by decide +kernel
theorem dX6_back_0 : decode cX6_back 0 = .ok (.aload_n 0, 1) := by decide +kernel
theorem dX6_back_1 : decode cX6_back 1 = .ok (.getfield 10, 3) := by decide +kernel
theorem dX6_back_4 : decode cX6_back 4 = .ok (.getfield 63, 3) := by decide +kernel
theorem dX6_back_7 : decode cX6_back 7 = .ok (.iload_n 1, 1) := by decide +kernel
theorem dX6_back_8 : decode cX6_back 8 = .ok (.invokevirtual 76, 3) := by decide +kernel
theorem dX6_back_11 : decode cX6_back 11 = .ok (.ifCond .eq 25, 3) := by decide +kernel
theorem dX6_back_14 : decode cX6_back 14 = .ok (.iload_n 2, 1) := by decide +kernel
theorem dX6_back_15 : decode cX6_back 15 = .ok (.invokestatic 112, 3) := by decide +kernel
theorem dX6_back_18 : decode cX6_back 18 = .ok (.ifCond .eq 18, 3) := by decide +kernel
theorem dX6_back_21 : decode cX6_back 21 = .ok (.aload_n 0, 1) := by decide +kernel
theorem dX6_back_22 : decode cX6_back 22 = .ok (.getfield 10, 3) := by decide +kernel
theorem dX6_back_25 : decode cX6_back 25 = .ok (.getfield 63, 3) := by decide +kernel
theorem dX6_back_28 : decode cX6_back 28 = .ok (.iload 4, 2) := by decide +kernel
theorem dX6_back_30 : decode cX6_back 30 = .ok (.invokevirtual 180, 3) := by decide +kernel
theorem dX6_back_33 : decode cX6_back 33 = .ok (.ifCond .ne 12, 3) := by decide +kernel
theorem dX6_back_36 : decode cX6_back 36 = .ok (.ldc 131, 2) := by decide +kernel
theorem dX6_back_38 : decode cX6_back 38 = .ok (.aload_n 0, 1) := by decide +kernel
theorem dX6_back_39 : decode cX6_back 39 = .ok (.iconst (-1), 1) := by decide +kernel
theorem dX6_back_40 : decode cX6_back 40 = .ok (.invokevirtual 44, 3) := by decide +kernel
theorem dX6_back_43 : decode cX6_back 43 = .ok (.iadd, 1) := by decide +kernel
theorem dX6_back_44 : decode cX6_back 44 = .ok (.ireturn, 1) := by decide +kernel
theorem dX6_back_45 : decode cX6_back 45 = .ok (.iload_n 3, 1) := by decide +kernel
theorem dX6_back_46 : decode cX6_back 46 = .ok (.iconst 1, 1) := by decide +kernel
theorem dX6_back_47 : decode cX6_back 47 = .ok (.if_icmp .lt 9, 3) := by decide +kernel
theorem dX6_back_50 : decode cX6_back 50 = .ok (.iload 5, 2) := by decide +kernel
theorem dX6_back_52 : decode cX6_back 52 = .ok (.iconst 1, 1) := by decide +kernel
theorem dX6_back_53 : decode cX6_back 53 = .ok (.if_icmp .ge 13, 3) := by decide +kernel
theorem dX6_back_56 : decode cX6_back 56 = .ok (.ldc 131, 2) := by decide +kernel
theorem dX6_back_58 : decode cX6_back 58 = .ok (.aload_n 0, 1) := by decide +kernel
theorem dX6_back_59 : decode cX6_back 59 = .ok (.bipush (-4), 2) := by decide +kernel
theorem dX6_back_61 : decode cX6_back 61 = .ok (.invokevirtual 44, 3) := by decide +kernel
theorem dX6_back_64 : decode cX6_back 64 = .ok (.iadd, 1) := by decide +kernel
theorem dX6_back_65 : decode cX6_back 65 = .ok (.ireturn, 1) := by decide +kernel
theorem dX6_back_66 : decode cX6_back 66 = .ok (.iload_n 3, 1) := by decide +kernel
theorem dX6_back_67 : decode cX6_back 67 = .ok (.sipush 9999, 3) := by decide +kernel
theorem dX6_back_70 : decode cX6_back 70 = .ok (.if_icmp .gt 11, 3) := by decide +kernel
theorem dX6_back_73 : decode cX6_back 73 = .ok (.iload 5, 2) := by decide +kernel
theorem dX6_back_75 : decode cX6_back 75 = .ok (.sipush 200, 3) := by decide +kernel
theorem dX6_back_78 : decode cX6_back 78 = .ok (.if_icmp .le 13, 3) := by decide +kernel
theorem dX6_back_81 : decode cX6_back 81 = .ok (.ldc 131, 2) := by decide +kernel
theorem dX6_back_83 : decode cX6_back 83 = .ok (.aload_n 0, 1) := by decide +kernel
theorem dX6_back_84 : decode cX6_back 84 = .ok (.bipush (-6), 2) := by decide +kernel
theorem dX6_back_86 : decode cX6_back 86 = .ok (.invokevirtual 44, 3) := by decide +kernel
theorem dX6_back_89 : decode cX6_back 89 = .ok (.iadd, 1) := by decide +kernel
theorem dX6_back_90 : decode cX6_back 90 = .ok (.ireturn, 1) := by decide +kernel
theorem dX6_back_91 : decode cX6_back 91 = .ok (.aload_n 0, 1) := by decide +kernel
theorem dX6_back_92 : decode cX6_back 92 = .ok (.getfield 16, 3) := by decide +kernel
theorem dX6_back_95 : decode cX6_back 95 = .ok (.aload_n 0, 1) := by decide +kernel
theorem dX6_back_96 : decode cX6_back 96 = .ok (.getfield 10, 3) := by decide +kernel
theorem dX6_back_99 : decode cX6_back 99 = .ok (.invokevirtual 55, 3) := by decide +kernel
theorem dX6_back_102 : decode cX6_back 102 = .ok (.aload_n 0, 1) := by decide +kernel
theorem dX6_back_103 : decode cX6_back 103 = .ok (.getfield 16, 3) := by decide +kernel
theorem dX6_back_106 : decode cX6_back 106 = .ok (.iload 5, 2) := by decide +kernel
theorem dX6_back_108 : decode cX6_back 108 = .ok (.bipush 9, 2) := by decide +kernel
theorem dX6_back_110 : decode cX6_back 110 = .ok (.invokevirtual 163, 3) := by decide +kernel
theorem dX6_back_113 : decode cX6_back 113 = .ok (.aload_n 0, 1) := by decide +kernel
theorem dX6_back_114 : decode cX6_back 114 = .ok (.getfield 16, 3) := by decide +kernel
theorem dX6_back_117 : decode cX6_back 117 = .ok (.getfield 63, 3) := by decide +kernel
theorem dX6_back_120 : decode cX6_back 120 = .ok (.iload 4, 2) := by decide +kernel
theorem dX6_back_122 : decode cX6_back 122 = .ok (.iload_n 2, 1) := by decide +kernel
theorem dX6_back_123 : decode cX6_back 123 = .ok (.invokevirtual 183, 3) := by decide +kernel
theorem dX6_back_126 : decode cX6_back 126 = .ok (.istore 6, 2) := by decide +kernel
theorem dX6_back_128 : decode cX6_back 128 = .ok (.aload_n 0, 1) := by decide +kernel
theorem dX6_back_129 : decode cX6_back 129 = .ok (.getfield 16, 3) := by decide +kernel
theorem dX6_back_132 : decode cX6_back 132 = .ok (.aload_n 0, 1) := by decide +kernel
theorem dX6_back_133 : decode cX6_back 133 = .ok (.getfield 10, 3) := by decide +kernel
theorem dX6_back_136 : decode cX6_back 136 = .ok (.invokevirtual 55, 3) := by decide +kernel
theorem dX6_back_139 : decode cX6_back 139 = .ok (.aload_n 0, 1) := by decide +kernel
theorem dX6_back_140 : decode cX6_back 140 = .ok (.getfield 16, 3) := by decide +kernel
theorem dX6_back_143 : decode cX6_back 143 = .ok (.iload_n 1, 1) := by decide +kernel
theorem dX6_back_144 : decode cX6_back 144 = .ok (.iload_n 2, 1) := by decide +kernel
theorem dX6_back_145 : decode cX6_back 145 = .ok (.iload_n 3, 1) := by decide +kernel
theorem dX6_back_146 : decode cX6_back 146 = .ok (.invokevirtual 186, 3) := by decide +kernel
theorem dX6_back_149 : decode cX6_back 149 = .ok (.aload_n 0, 1) := by decide +kernel
theorem dX6_back_150 : decode cX6_back 150 = .ok (.getfield 16, 3) := by decide +kernel
theorem dX6_back_153 : decode cX6_back 153 = .ok (.iload 5, 2) := by decide +kernel
theorem dX6_back_155 : decode cX6_back 155 = .ok (.bipush 9, 2) := by decide +kernel
theorem dX6_back_157 : decode cX6_back 157 = .ok (.invokevirtual 163, 3) := by decide +kernel
theorem dX6_back_160 : decode cX6_back 160 = .ok (.aload_n 0, 1) := by decide +kernel
theorem dX6_back_161 : decode cX6_back 161 = .ok (.getfield 16, 3) := by decide +kernel
theorem dX6_back_164 : decode cX6_back 164 = .ok (.getfield 63, 3) := by decide +kernel
theorem dX6_back_167 : decode cX6_back 167 = .ok (.iload 4, 2) := by decide +kernel
theorem dX6_back_169 : decode cX6_back 169 = .ok (.iload_n 2, 1) := by decide +kernel
theorem dX6_back_170 : decode cX6_back 170 = .ok (.invokevirtual 183, 3) := by decide +kernel
theorem dX6_back_173 : decode cX6_back 173 = .ok (.iload 6, 2) := by decide +kernel
theorem dX6_back_175 : decode cX6_back 175 = .ok (.isub, 1) := by decide +kernel
theorem dX6_back_176 : decode cX6_back 176 = .ok (.ireturn, 1) := by decide +kernel
theorem dX6_bestDrop_0 : decode cX6_bestDrop 0 = .ok (.aload_n 0, 1) := by decide +kernel
theorem dX6_bestDrop_1 : decode cX6_bestDrop 1 = .ok (.iload_n 1, 1) := by decide +kernel
theorem dX6_bestDrop_2 : decode cX6_bestDrop 2 = .ok (.invokevirtual 160, 3) := by decide +kernel
theorem dX6_bestDrop_5 : decode cX6_bestDrop 5 = .ok (.istore_n 2, 1) := by decide +kernel
theorem dX6_bestDrop_6 : decode cX6_bestDrop 6 = .ok (.iload_n 2, 1) := by decide +kernel
theorem dX6_bestDrop_7 : decode cX6_bestDrop 7 = .ok (.ifCond .ge 9, 3) := by decide +kernel
theorem dX6_bestDrop_10 : decode cX6_bestDrop 10 = .ok (.aload_n 0, 1) := by decide +kernel
theorem dX6_bestDrop_11 : decode cX6_bestDrop 11 = .ok (.iload_n 2, 1) := by decide +kernel
theorem dX6_bestDrop_12 : decode cX6_bestDrop 12 = .ok (.invokevirtual 44, 3) := by decide +kernel
theorem dX6_bestDrop_15 : decode cX6_bestDrop 15 = .ok (.ireturn, 1) := by decide +kernel
theorem dX6_bestDrop_16 : decode cX6_bestDrop 16 = .ok (.ldc2_w 171, 3) := by decide +kernel
theorem dX6_bestDrop_19 : decode cX6_bestDrop 19 = .ok (.lstore_n 3, 1) := by decide +kernel
theorem dX6_bestDrop_20 : decode cX6_bestDrop 20 = .ok (.bipush (-9), 2) := by decide +kernel
theorem dX6_bestDrop_22 : decode cX6_bestDrop 22 = .ok (.istore 5, 2) := by decide +kernel
theorem dX6_bestDrop_24 : decode cX6_bestDrop 24 = .ok (.iconst 0, 1) := by decide +kernel
theorem dX6_bestDrop_25 : decode cX6_bestDrop 25 = .ok (.istore 6, 2) := by decide +kernel
theorem dX6_bestDrop_27 : decode cX6_bestDrop 27 = .ok (.iload 6, 2) := by decide +kernel
theorem dX6_bestDrop_29 : decode cX6_bestDrop 29 = .ok (.bipush 8, 2) := by decide +kernel
theorem dX6_bestDrop_31 : decode cX6_bestDrop 31 = .ok (.if_icmp .gt 79, 3) := by decide +kernel
theorem dX6_bestDrop_34 : decode cX6_bestDrop 34 = .ok (.iload 6, 2) := by decide +kernel
theorem dX6_bestDrop_36 : decode cX6_bestDrop 36 = .ok (.bipush 8, 2) := by decide +kernel
theorem dX6_bestDrop_38 : decode cX6_bestDrop 38 = .ok (.if_icmp .eq 18, 3) := by decide +kernel
theorem dX6_bestDrop_41 : decode cX6_bestDrop 41 = .ok (.aload_n 0, 1) := by decide +kernel
theorem dX6_bestDrop_42 : decode cX6_bestDrop 42 = .ok (.getfield 10, 3) := by decide +kernel
theorem dX6_bestDrop_45 : decode cX6_bestDrop 45 = .ok (.getfield 63, 3) := by decide +kernel
theorem dX6_bestDrop_48 : decode cX6_bestDrop 48 = .ok (.iload 6, 2) := by decide +kernel
theorem dX6_bestDrop_50 : decode cX6_bestDrop 50 = .ok (.invokevirtual 76, 3) := by decide +kernel
theorem dX6_bestDrop_53 : decode cX6_bestDrop 53 = .ok (.ifCond .eq 51, 3) := by decide +kernel
theorem dX6_bestDrop_56 : decode cX6_bestDrop 56 = .ok (.aload_n 0, 1) := by decide +kernel
theorem dX6_bestDrop_57 : decode cX6_bestDrop 57 = .ok (.getfield 16, 3) := by decide +kernel
theorem dX6_bestDrop_60 : decode cX6_bestDrop 60 = .ok (.aload_n 0, 1) := by decide +kernel
theorem dX6_bestDrop_61 : decode cX6_bestDrop 61 = .ok (.getfield 10, 3) := by decide +kernel
theorem dX6_bestDrop_64 : decode cX6_bestDrop 64 = .ok (.invokevirtual 55, 3) := by decide +kernel
theorem dX6_bestDrop_67 : decode cX6_bestDrop 67 = .ok (.aload_n 0, 1) := by decide +kernel
theorem dX6_bestDrop_68 : decode cX6_bestDrop 68 = .ok (.getfield 16, 3) := by decide +kernel
theorem dX6_bestDrop_71 : decode cX6_bestDrop 71 = .ok (.getfield 137, 3) := by decide +kernel
theorem dX6_bestDrop_74 : decode cX6_bestDrop 74 = .ok (.iload 6, 2) := by decide +kernel
theorem dX6_bestDrop_76 : decode cX6_bestDrop 76 = .ok (.putfield 157, 3) := by decide +kernel
theorem dX6_bestDrop_79 : decode cX6_bestDrop 79 = .ok (.aload_n 0, 1) := by decide +kernel
theorem dX6_bestDrop_80 : decode cX6_bestDrop 80 = .ok (.getfield 16, 3) := by decide +kernel
theorem dX6_bestDrop_83 : decode cX6_bestDrop 83 = .ok (.iload_n 1, 1) := by decide +kernel
theorem dX6_bestDrop_84 : decode cX6_bestDrop 84 = .ok (.lload_n 3, 1) := by decide +kernel
theorem dX6_bestDrop_85 : decode cX6_bestDrop 85 = .ok (.invokevirtual 173, 3) := by decide +kernel
theorem dX6_bestDrop_88 : decode cX6_bestDrop 88 = .ok (.lstore 7, 2) := by decide +kernel
theorem dX6_bestDrop_90 : decode cX6_bestDrop 90 = .ok (.lload 7, 2) := by decide +kernel
theorem dX6_bestDrop_92 : decode cX6_bestDrop 92 = .ok (.lload_n 3, 1) := by decide +kernel
theorem dX6_bestDrop_93 : decode cX6_bestDrop 93 = .ok (.lcmp, 1) := by decide +kernel
theorem dX6_bestDrop_94 : decode cX6_bestDrop 94 = .ok (.ifCond .ge 10, 3) := by decide +kernel
theorem dX6_bestDrop_97 : decode cX6_bestDrop 97 = .ok (.lload 7, 2) := by decide +kernel
theorem dX6_bestDrop_99 : decode cX6_bestDrop 99 = .ok (.lstore_n 3, 1) := by decide +kernel
theorem dX6_bestDrop_100 : decode cX6_bestDrop 100 = .ok (.iload 6, 2) := by decide +kernel
theorem dX6_bestDrop_102 : decode cX6_bestDrop 102 = .ok (.istore 5, 2) := by decide +kernel
theorem dX6_bestDrop_104 : decode cX6_bestDrop 104 = .ok (.iinc 6 1, 3) := by decide +kernel
theorem dX6_bestDrop_107 : decode cX6_bestDrop 107 = .ok (.goto (-80), 3) := by decide +kernel
theorem dX6_bestDrop_110 : decode cX6_bestDrop 110 = .ok (.iload 5, 2) := by decide +kernel
theorem dX6_bestDrop_112 : decode cX6_bestDrop 112 = .ok (.ireturn, 1) := by decide +kernel
theorem dX6_bestPlan_0 : decode cX6_bestPlan 0 = .ok (.aload_n 0, 1) := by decide +kernel
theorem dX6_bestPlan_1 : decode cX6_bestPlan 1 = .ok (.iload_n 1, 1) := by decide +kernel
theorem dX6_bestPlan_2 : decode cX6_bestPlan 2 = .ok (.invokevirtual 160, 3) := by decide +kernel
theorem dX6_bestPlan_5 : decode cX6_bestPlan 5 = .ok (.istore_n 2, 1) := by decide +kernel
theorem dX6_bestPlan_6 : decode cX6_bestPlan 6 = .ok (.iload_n 2, 1) := by decide +kernel
theorem dX6_bestPlan_7 : decode cX6_bestPlan 7 = .ok (.ifCond .ge 9, 3) := by decide +kernel
theorem dX6_bestPlan_10 : decode cX6_bestPlan 10 = .ok (.aload_n 0, 1) := by decide +kernel
theorem dX6_bestPlan_11 : decode cX6_bestPlan 11 = .ok (.iload_n 2, 1) := by decide +kernel
theorem dX6_bestPlan_12 : decode cX6_bestPlan 12 = .ok (.invokevirtual 44, 3) := by decide +kernel
theorem dX6_bestPlan_15 : decode cX6_bestPlan 15 = .ok (.ireturn, 1) := by decide +kernel
theorem dX6_bestPlan_16 : decode cX6_bestPlan 16 = .ok (.ldc2_w 171, 3) := by decide +kernel
theorem dX6_bestPlan_19 : decode cX6_bestPlan 19 = .ok (.lstore_n 3, 1) := by decide +kernel
theorem dX6_bestPlan_20 : decode cX6_bestPlan 20 = .ok (.bipush (-9), 2) := by decide +kernel
theorem dX6_bestPlan_22 : decode cX6_bestPlan 22 = .ok (.istore 5, 2) := by decide +kernel
theorem dX6_bestPlan_24 : decode cX6_bestPlan 24 = .ok (.iconst 0, 1) := by decide +kernel
theorem dX6_bestPlan_25 : decode cX6_bestPlan 25 = .ok (.istore 6, 2) := by decide +kernel
theorem dX6_bestPlan_27 : decode cX6_bestPlan 27 = .ok (.iload 6, 2) := by decide +kernel
theorem dX6_bestPlan_29 : decode cX6_bestPlan 29 = .ok (.iconst 4, 1) := by decide +kernel
theorem dX6_bestPlan_30 : decode cX6_bestPlan 30 = .ok (.if_icmp .gt 57, 3) := by decide +kernel
theorem dX6_bestPlan_33 : decode cX6_bestPlan 33 = .ok (.aload_n 0, 1) := by decide +kernel
theorem dX6_bestPlan_34 : decode cX6_bestPlan 34 = .ok (.getfield 16, 3) := by decide +kernel
theorem dX6_bestPlan_37 : decode cX6_bestPlan 37 = .ok (.aload_n 0, 1) := by decide +kernel
theorem dX6_bestPlan_38 : decode cX6_bestPlan 38 = .ok (.getfield 10, 3) := by decide +kernel
theorem dX6_bestPlan_41 : decode cX6_bestPlan 41 = .ok (.invokevirtual 55, 3) := by decide +kernel
theorem dX6_bestPlan_44 : decode cX6_bestPlan 44 = .ok (.aload_n 0, 1) := by decide +kernel
theorem dX6_bestPlan_45 : decode cX6_bestPlan 45 = .ok (.getfield 16, 3) := by decide +kernel
theorem dX6_bestPlan_48 : decode cX6_bestPlan 48 = .ok (.getfield 137, 3) := by decide +kernel
theorem dX6_bestPlan_51 : decode cX6_bestPlan 51 = .ok (.iload 6, 2) := by decide +kernel
theorem dX6_bestPlan_53 : decode cX6_bestPlan 53 = .ok (.putfield 189, 3) := by decide +kernel
theorem dX6_bestPlan_56 : decode cX6_bestPlan 56 = .ok (.aload_n 0, 1) := by decide +kernel
theorem dX6_bestPlan_57 : decode cX6_bestPlan 57 = .ok (.getfield 16, 3) := by decide +kernel
theorem dX6_bestPlan_60 : decode cX6_bestPlan 60 = .ok (.iload_n 1, 1) := by decide +kernel
theorem dX6_bestPlan_61 : decode cX6_bestPlan 61 = .ok (.lload_n 3, 1) := by decide +kernel
theorem dX6_bestPlan_62 : decode cX6_bestPlan 62 = .ok (.invokevirtual 173, 3) := by decide +kernel
theorem dX6_bestPlan_65 : decode cX6_bestPlan 65 = .ok (.lstore 7, 2) := by decide +kernel
theorem dX6_bestPlan_67 : decode cX6_bestPlan 67 = .ok (.lload 7, 2) := by decide +kernel
theorem dX6_bestPlan_69 : decode cX6_bestPlan 69 = .ok (.lload_n 3, 1) := by decide +kernel
theorem dX6_bestPlan_70 : decode cX6_bestPlan 70 = .ok (.lcmp, 1) := by decide +kernel
theorem dX6_bestPlan_71 : decode cX6_bestPlan 71 = .ok (.ifCond .ge 10, 3) := by decide +kernel
theorem dX6_bestPlan_74 : decode cX6_bestPlan 74 = .ok (.lload 7, 2) := by decide +kernel
theorem dX6_bestPlan_76 : decode cX6_bestPlan 76 = .ok (.lstore_n 3, 1) := by decide +kernel
theorem dX6_bestPlan_77 : decode cX6_bestPlan 77 = .ok (.iload 6, 2) := by decide +kernel
theorem dX6_bestPlan_79 : decode cX6_bestPlan 79 = .ok (.istore 5, 2) := by decide +kernel
theorem dX6_bestPlan_81 : decode cX6_bestPlan 81 = .ok (.iinc 6 1, 3) := by decide +kernel
theorem dX6_bestPlan_84 : decode cX6_bestPlan 84 = .ok (.goto (-57), 3) := by decide +kernel
theorem dX6_bestPlan_87 : decode cX6_bestPlan 87 = .ok (.iload 5, 2) := by decide +kernel
theorem dX6_bestPlan_89 : decode cX6_bestPlan 89 = .ok (.ireturn, 1) := by decide +kernel
theorem dX6_leastCap_0 : decode cX6_leastCap 0 = .ok (.aload_n 0, 1) := by decide +kernel
theorem dX6_leastCap_1 : decode cX6_leastCap 1 = .ok (.iload_n 1, 1) := by decide +kernel
theorem dX6_leastCap_2 : decode cX6_leastCap 2 = .ok (.invokevirtual 160, 3) := by decide +kernel
theorem dX6_leastCap_5 : decode cX6_leastCap 5 = .ok (.istore_n 2, 1) := by decide +kernel
theorem dX6_leastCap_6 : decode cX6_leastCap 6 = .ok (.iload_n 2, 1) := by decide +kernel
theorem dX6_leastCap_7 : decode cX6_leastCap 7 = .ok (.ifCond .ge 9, 3) := by decide +kernel
theorem dX6_leastCap_10 : decode cX6_leastCap 10 = .ok (.aload_n 0, 1) := by decide +kernel
theorem dX6_leastCap_11 : decode cX6_leastCap 11 = .ok (.iload_n 2, 1) := by decide +kernel
theorem dX6_leastCap_12 : decode cX6_leastCap 12 = .ok (.invokevirtual 44, 3) := by decide +kernel
theorem dX6_leastCap_15 : decode cX6_leastCap 15 = .ok (.ireturn, 1) := by decide +kernel
theorem dX6_leastCap_16 : decode cX6_leastCap 16 = .ok (.iconst 0, 1) := by decide +kernel
theorem dX6_leastCap_17 : decode cX6_leastCap 17 = .ok (.istore_n 3, 1) := by decide +kernel
theorem dX6_leastCap_18 : decode cX6_leastCap 18 = .ok (.iload_n 3, 1) := by decide +kernel
theorem dX6_leastCap_19 : decode cX6_leastCap 19 = .ok (.sipush 950, 3) := by decide +kernel
theorem dX6_leastCap_22 : decode cX6_leastCap 22 = .ok (.if_icmp .gt 47, 3) := by decide +kernel
theorem dX6_leastCap_25 : decode cX6_leastCap 25 = .ok (.aload_n 0, 1) := by decide +kernel
theorem dX6_leastCap_26 : decode cX6_leastCap 26 = .ok (.getfield 16, 3) := by decide +kernel
theorem dX6_leastCap_29 : decode cX6_leastCap 29 = .ok (.aload_n 0, 1) := by decide +kernel
theorem dX6_leastCap_30 : decode cX6_leastCap 30 = .ok (.getfield 10, 3) := by decide +kernel
theorem dX6_leastCap_33 : decode cX6_leastCap 33 = .ok (.invokevirtual 55, 3) := by decide +kernel
theorem dX6_leastCap_36 : decode cX6_leastCap 36 = .ok (.aload_n 0, 1) := by decide +kernel
theorem dX6_leastCap_37 : decode cX6_leastCap 37 = .ok (.getfield 16, 3) := by decide +kernel
theorem dX6_leastCap_40 : decode cX6_leastCap 40 = .ok (.getfield 137, 3) := by decide +kernel
theorem dX6_leastCap_43 : decode cX6_leastCap 43 = .ok (.iload_n 3, 1) := by decide +kernel
theorem dX6_leastCap_44 : decode cX6_leastCap 44 = .ok (.putfield 192, 3) := by decide +kernel
theorem dX6_leastCap_47 : decode cX6_leastCap 47 = .ok (.aload_n 0, 1) := by decide +kernel
theorem dX6_leastCap_48 : decode cX6_leastCap 48 = .ok (.getfield 16, 3) := by decide +kernel
theorem dX6_leastCap_51 : decode cX6_leastCap 51 = .ok (.iload_n 1, 1) := by decide +kernel
theorem dX6_leastCap_52 : decode cX6_leastCap 52 = .ok (.iconst (-1), 1) := by decide +kernel
theorem dX6_leastCap_53 : decode cX6_leastCap 53 = .ok (.invokevirtual 177, 3) := by decide +kernel
theorem dX6_leastCap_56 : decode cX6_leastCap 56 = .ok (.bipush (-9), 2) := by decide +kernel
theorem dX6_leastCap_58 : decode cX6_leastCap 58 = .ok (.if_icmp .ne 5, 3) := by decide +kernel
theorem dX6_leastCap_61 : decode cX6_leastCap 61 = .ok (.iload_n 3, 1) := by decide +kernel
theorem dX6_leastCap_62 : decode cX6_leastCap 62 = .ok (.ireturn, 1) := by decide +kernel
theorem dX6_leastCap_63 : decode cX6_leastCap 63 = .ok (.iinc 3 50, 3) := by decide +kernel
theorem dX6_leastCap_66 : decode cX6_leastCap 66 = .ok (.goto (-48), 3) := by decide +kernel
theorem dX6_leastCap_69 : decode cX6_leastCap 69 = .ok (.bipush (-9), 2) := by decide +kernel
theorem dX6_leastCap_71 : decode cX6_leastCap 71 = .ok (.ireturn, 1) := by decide +kernel
theorem dX6_wall_0 : decode cX6_wall 0 = .ok (.aload_n 0, 1) := by decide +kernel
theorem dX6_wall_1 : decode cX6_wall 1 = .ok (.iload_n 1, 1) := by decide +kernel
theorem dX6_wall_2 : decode cX6_wall 2 = .ok (.invokevirtual 160, 3) := by decide +kernel
theorem dX6_wall_5 : decode cX6_wall 5 = .ok (.istore_n 2, 1) := by decide +kernel
theorem dX6_wall_6 : decode cX6_wall 6 = .ok (.iload_n 2, 1) := by decide +kernel
theorem dX6_wall_7 : decode cX6_wall 7 = .ok (.ifCond .ge 9, 3) := by decide +kernel
theorem dX6_wall_10 : decode cX6_wall 10 = .ok (.aload_n 0, 1) := by decide +kernel
theorem dX6_wall_11 : decode cX6_wall 11 = .ok (.iload_n 2, 1) := by decide +kernel
theorem dX6_wall_12 : decode cX6_wall 12 = .ok (.invokevirtual 44, 3) := by decide +kernel
theorem dX6_wall_15 : decode cX6_wall 15 = .ok (.ireturn, 1) := by decide +kernel
theorem dX6_wall_16 : decode cX6_wall 16 = .ok (.aload_n 0, 1) := by decide +kernel
theorem dX6_wall_17 : decode cX6_wall 17 = .ok (.getfield 16, 3) := by decide +kernel
theorem dX6_wall_20 : decode cX6_wall 20 = .ok (.aload_n 0, 1) := by decide +kernel
theorem dX6_wall_21 : decode cX6_wall 21 = .ok (.getfield 10, 3) := by decide +kernel
theorem dX6_wall_24 : decode cX6_wall 24 = .ok (.invokevirtual 55, 3) := by decide +kernel
theorem dX6_wall_27 : decode cX6_wall 27 = .ok (.aload_n 0, 1) := by decide +kernel
theorem dX6_wall_28 : decode cX6_wall 28 = .ok (.getfield 16, 3) := by decide +kernel
theorem dX6_wall_31 : decode cX6_wall 31 = .ok (.iload_n 1, 1) := by decide +kernel
theorem dX6_wall_32 : decode cX6_wall 32 = .ok (.ldc2_w 171, 3) := by decide +kernel
theorem dX6_wall_35 : decode cX6_wall 35 = .ok (.invokevirtual 173, 3) := by decide +kernel
theorem dX6_wall_38 : decode cX6_wall 38 = .ok (.lstore_n 3, 1) := by decide +kernel
theorem dX6_wall_39 : decode cX6_wall 39 = .ok (.bipush (-9), 2) := by decide +kernel
theorem dX6_wall_41 : decode cX6_wall 41 = .ok (.istore 5, 2) := by decide +kernel
theorem dX6_wall_43 : decode cX6_wall 43 = .ok (.iconst 0, 1) := by decide +kernel
theorem dX6_wall_44 : decode cX6_wall 44 = .ok (.istore 6, 2) := by decide +kernel
theorem dX6_wall_46 : decode cX6_wall 46 = .ok (.iload 6, 2) := by decide +kernel
theorem dX6_wall_48 : decode cX6_wall 48 = .ok (.aload_n 0, 1) := by decide +kernel
theorem dX6_wall_49 : decode cX6_wall 49 = .ok (.getfield 10, 3) := by decide +kernel
theorem dX6_wall_52 : decode cX6_wall 52 = .ok (.getfield 88, 3) := by decide +kernel
theorem dX6_wall_55 : decode cX6_wall 55 = .ok (.getfield 195, 3) := by decide +kernel
theorem dX6_wall_58 : decode cX6_wall 58 = .ok (.if_icmp .ge 72, 3) := by decide +kernel
theorem dX6_wall_61 : decode cX6_wall 61 = .ok (.aload_n 0, 1) := by decide +kernel
theorem dX6_wall_62 : decode cX6_wall 62 = .ok (.getfield 10, 3) := by decide +kernel
theorem dX6_wall_65 : decode cX6_wall 65 = .ok (.getfield 88, 3) := by decide +kernel
theorem dX6_wall_68 : decode cX6_wall 68 = .ok (.iload 6, 2) := by decide +kernel
theorem dX6_wall_70 : decode cX6_wall 70 = .ok (.invokevirtual 95, 3) := by decide +kernel
theorem dX6_wall_73 : decode cX6_wall 73 = .ok (.ifCond .ne 51, 3) := by decide +kernel
theorem dX6_wall_76 : decode cX6_wall 76 = .ok (.aload_n 0, 1) := by decide +kernel
theorem dX6_wall_77 : decode cX6_wall 77 = .ok (.getfield 16, 3) := by decide +kernel
theorem dX6_wall_80 : decode cX6_wall 80 = .ok (.aload_n 0, 1) := by decide +kernel
theorem dX6_wall_81 : decode cX6_wall 81 = .ok (.getfield 10, 3) := by decide +kernel
theorem dX6_wall_84 : decode cX6_wall 84 = .ok (.invokevirtual 55, 3) := by decide +kernel
theorem dX6_wall_87 : decode cX6_wall 87 = .ok (.aload_n 0, 1) := by decide +kernel
theorem dX6_wall_88 : decode cX6_wall 88 = .ok (.getfield 16, 3) := by decide +kernel
theorem dX6_wall_91 : decode cX6_wall 91 = .ok (.getfield 88, 3) := by decide +kernel
theorem dX6_wall_94 : decode cX6_wall 94 = .ok (.iload 6, 2) := by decide +kernel
theorem dX6_wall_96 : decode cX6_wall 96 = .ok (.invokevirtual 98, 3) := by decide +kernel
theorem dX6_wall_99 : decode cX6_wall 99 = .ok (.aload_n 0, 1) := by decide +kernel
theorem dX6_wall_100 : decode cX6_wall 100 = .ok (.getfield 16, 3) := by decide +kernel
theorem dX6_wall_103 : decode cX6_wall 103 = .ok (.iload_n 1, 1) := by decide +kernel
theorem dX6_wall_104 : decode cX6_wall 104 = .ok (.lload_n 3, 1) := by decide +kernel
theorem dX6_wall_105 : decode cX6_wall 105 = .ok (.invokevirtual 173, 3) := by decide +kernel
theorem dX6_wall_108 : decode cX6_wall 108 = .ok (.lstore 7, 2) := by decide +kernel
theorem dX6_wall_110 : decode cX6_wall 110 = .ok (.lload 7, 2) := by decide +kernel
theorem dX6_wall_112 : decode cX6_wall 112 = .ok (.lload_n 3, 1) := by decide +kernel
theorem dX6_wall_113 : decode cX6_wall 113 = .ok (.lcmp, 1) := by decide +kernel
theorem dX6_wall_114 : decode cX6_wall 114 = .ok (.ifCond .ge 10, 3) := by decide +kernel
theorem dX6_wall_117 : decode cX6_wall 117 = .ok (.lload 7, 2) := by decide +kernel
theorem dX6_wall_119 : decode cX6_wall 119 = .ok (.lstore_n 3, 1) := by decide +kernel
theorem dX6_wall_120 : decode cX6_wall 120 = .ok (.iload 6, 2) := by decide +kernel
theorem dX6_wall_122 : decode cX6_wall 122 = .ok (.istore 5, 2) := by decide +kernel
theorem dX6_wall_124 : decode cX6_wall 124 = .ok (.iinc 6 1, 3) := by decide +kernel
theorem dX6_wall_127 : decode cX6_wall 127 = .ok (.goto (-81), 3) := by decide +kernel
theorem dX6_wall_130 : decode cX6_wall 130 = .ok (.iload 5, 2) := by decide +kernel
theorem dX6_wall_132 : decode cX6_wall 132 = .ok (.ireturn, 1) := by decide +kernel
theorem dX6_share_0 : decode cX6_share 0 = .ok (.aload_n 0, 1) := by decide +kernel
theorem dX6_share_1 : decode cX6_share 1 = .ok (.getfield 10, 3) := by decide +kernel
theorem dX6_share_4 : decode cX6_share 4 = .ok (.getfield 196, 3) := by decide +kernel
theorem dX6_share_7 : decode cX6_share 7 = .ok (.iload_n 1, 1) := by decide +kernel
theorem dX6_share_8 : decode cX6_share 8 = .ok (.invokevirtual 200, 3) := by decide +kernel
theorem dX6_share_11 : decode cX6_share 11 = .ok (.ifCond .ne 12, 3) := by decide +kernel
theorem dX6_share_14 : decode cX6_share 14 = .ok (.ldc 131, 2) := by decide +kernel
theorem dX6_share_16 : decode cX6_share 16 = .ok (.aload_n 0, 1) := by decide +kernel
theorem dX6_share_17 : decode cX6_share 17 = .ok (.iconst (-1), 1) := by decide +kernel
theorem dX6_share_18 : decode cX6_share 18 = .ok (.invokevirtual 44, 3) := by decide +kernel
theorem dX6_share_21 : decode cX6_share 21 = .ok (.iadd, 1) := by decide +kernel
theorem dX6_share_22 : decode cX6_share 22 = .ok (.ireturn, 1) := by decide +kernel
theorem dX6_share_23 : decode cX6_share 23 = .ok (.iload_n 2, 1) := by decide +kernel
theorem dX6_share_24 : decode cX6_share 24 = .ok (.iconst 1, 1) := by decide +kernel
theorem dX6_share_25 : decode cX6_share 25 = .ok (.if_icmp .ge 13, 3) := by decide +kernel
theorem dX6_share_28 : decode cX6_share 28 = .ok (.ldc 131, 2) := by decide +kernel
theorem dX6_share_30 : decode cX6_share 30 = .ok (.aload_n 0, 1) := by decide +kernel
theorem dX6_share_31 : decode cX6_share 31 = .ok (.bipush (-4), 2) := by decide +kernel
theorem dX6_share_33 : decode cX6_share 33 = .ok (.invokevirtual 44, 3) := by decide +kernel
theorem dX6_share_36 : decode cX6_share 36 = .ok (.iadd, 1) := by decide +kernel
theorem dX6_share_37 : decode cX6_share 37 = .ok (.ireturn, 1) := by decide +kernel
theorem dX6_share_38 : decode cX6_share 38 = .ok (.iload_n 2, 1) := by decide +kernel
theorem dX6_share_39 : decode cX6_share 39 = .ok (.sipush 200, 3) := by decide +kernel
theorem dX6_share_42 : decode cX6_share 42 = .ok (.if_icmp .le 13, 3) := by decide +kernel
theorem dX6_share_45 : decode cX6_share 45 = .ok (.ldc 131, 2) := by decide +kernel
theorem dX6_share_47 : decode cX6_share 47 = .ok (.aload_n 0, 1) := by decide +kernel
theorem dX6_share_48 : decode cX6_share 48 = .ok (.bipush (-6), 2) := by decide +kernel
theorem dX6_share_50 : decode cX6_share 50 = .ok (.invokevirtual 44, 3) := by decide +kernel
theorem dX6_share_53 : decode cX6_share 53 = .ok (.iadd, 1) := by decide +kernel
theorem dX6_share_54 : decode cX6_share 54 = .ok (.ireturn, 1) := by decide +kernel
theorem dX6_share_55 : decode cX6_share 55 = .ok (.aload_n 0, 1) := by decide +kernel
theorem dX6_share_56 : decode cX6_share 56 = .ok (.getfield 16, 3) := by decide +kernel
theorem dX6_share_59 : decode cX6_share 59 = .ok (.aload_n 0, 1) := by decide +kernel
theorem dX6_share_60 : decode cX6_share 60 = .ok (.getfield 10, 3) := by decide +kernel
theorem dX6_share_63 : decode cX6_share 63 = .ok (.invokevirtual 55, 3) := by decide +kernel
theorem dX6_share_66 : decode cX6_share 66 = .ok (.aload_n 0, 1) := by decide +kernel
theorem dX6_share_67 : decode cX6_share 67 = .ok (.getfield 16, 3) := by decide +kernel
theorem dX6_share_70 : decode cX6_share 70 = .ok (.iload_n 2, 1) := by decide +kernel
theorem dX6_share_71 : decode cX6_share 71 = .ok (.iconst (-1), 1) := by decide +kernel
theorem dX6_share_72 : decode cX6_share 72 = .ok (.invokevirtual 163, 3) := by decide +kernel
theorem dX6_share_75 : decode cX6_share 75 = .ok (.aload_n 0, 1) := by decide +kernel
theorem dX6_share_76 : decode cX6_share 76 = .ok (.getfield 16, 3) := by decide +kernel
theorem dX6_share_79 : decode cX6_share 79 = .ok (.getfield 63, 3) := by decide +kernel
theorem dX6_share_82 : decode cX6_share 82 = .ok (.invokevirtual 203, 3) := by decide +kernel
theorem dX6_share_85 : decode cX6_share 85 = .ok (.istore_n 3, 1) := by decide +kernel
theorem dX6_share_86 : decode cX6_share 86 = .ok (.aload_n 0, 1) := by decide +kernel
theorem dX6_share_87 : decode cX6_share 87 = .ok (.getfield 16, 3) := by decide +kernel
theorem dX6_share_90 : decode cX6_share 90 = .ok (.aload_n 0, 1) := by decide +kernel
theorem dX6_share_91 : decode cX6_share 91 = .ok (.getfield 10, 3) := by decide +kernel
end
section
theorem dX6_share_94 : decode cX6_share 94 = .ok (.invokevirtual 55, 3) := by decide +kernel
theorem dX6_share_97 : decode cX6_share 97 = .ok (.aload_n 0, 1) := by decide +kernel
theorem dX6_share_98 : decode cX6_share 98 = .ok (.getfield 16, 3) := by decide +kernel
theorem dX6_share_101 : decode cX6_share 101 = .ok (.getfield 196, 3) := by decide +kernel
theorem dX6_share_104 : decode cX6_share 104 = .ok (.getfield 206, 3) := by decide +kernel
theorem dX6_share_107 : decode cX6_share 107 = .ok (.iload_n 1, 1) := by decide +kernel
theorem dX6_share_108 : decode cX6_share 108 = .ok (.iconst 0, 1) := by decide +kernel
theorem dX6_share_109 : decode cX6_share 109 = .ok (.iastore, 1) := by decide +kernel
theorem dX6_share_110 : decode cX6_share 110 = .ok (.aload_n 0, 1) := by decide +kernel
theorem dX6_share_111 : decode cX6_share 111 = .ok (.getfield 16, 3) := by decide +kernel
theorem dX6_share_114 : decode cX6_share 114 = .ok (.iload_n 2, 1) := by decide +kernel
theorem dX6_share_115 : decode cX6_share 115 = .ok (.iconst (-1), 1) := by decide +kernel
theorem dX6_share_116 : decode cX6_share 116 = .ok (.invokevirtual 163, 3) := by decide +kernel
theorem dX6_share_119 : decode cX6_share 119 = .ok (.iload_n 3, 1) := by decide +kernel
theorem dX6_share_120 : decode cX6_share 120 = .ok (.aload_n 0, 1) := by decide +kernel
theorem dX6_share_121 : decode cX6_share 121 = .ok (.getfield 16, 3) := by decide +kernel
theorem dX6_share_124 : decode cX6_share 124 = .ok (.getfield 63, 3) := by decide +kernel
theorem dX6_share_127 : decode cX6_share 127 = .ok (.invokevirtual 203, 3) := by decide +kernel
theorem dX6_share_130 : decode cX6_share 130 = .ok (.isub, 1) := by decide +kernel
theorem dX6_share_131 : decode cX6_share 131 = .ok (.ireturn, 1) := by decide +kernel
theorem dX6_row_0 : decode cX6_row 0 = .ok (.iload_n 1, 1) := by decide +kernel
theorem dX6_row_1 : decode cX6_row 1 = .ok (.ifCond .ge 10, 3) := by decide +kernel
theorem dX6_row_4 : decode cX6_row 4 = .ok (.aload_n 0, 1) := by decide +kernel
theorem dX6_row_5 : decode cX6_row 5 = .ok (.bipush (-4), 2) := by decide +kernel
theorem dX6_row_7 : decode cX6_row 7 = .ok (.invokevirtual 44, 3) := by decide +kernel
theorem dX6_row_10 : decode cX6_row 10 = .ok (.ireturn, 1) := by decide +kernel
theorem dX6_row_11 : decode cX6_row 11 = .ok (.iload_n 1, 1) := by decide +kernel
theorem dX6_row_12 : decode cX6_row 12 = .ok (.bipush 9, 2) := by decide +kernel
theorem dX6_row_14 : decode cX6_row 14 = .ok (.if_icmp .gt 12, 3) := by decide +kernel
theorem dX6_row_17 : decode cX6_row 17 = .ok (.aload_n 0, 1) := by decide +kernel
theorem dX6_row_18 : decode cX6_row 18 = .ok (.getfield 37, 3) := by decide +kernel
theorem dX6_row_21 : decode cX6_row 21 = .ok (.bipush 28, 2) := by decide +kernel
theorem dX6_row_23 : decode cX6_row 23 = .ok (.if_icmp .lt 10, 3) := by decide +kernel
theorem dX6_row_26 : decode cX6_row 26 = .ok (.aload_n 0, 1) := by decide +kernel
theorem dX6_row_27 : decode cX6_row 27 = .ok (.bipush (-6), 2) := by decide +kernel
theorem dX6_row_29 : decode cX6_row 29 = .ok (.invokevirtual 44, 3) := by decide +kernel
theorem dX6_row_32 : decode cX6_row 32 = .ok (.ireturn, 1) := by decide +kernel
theorem dX6_row_33 : decode cX6_row 33 = .ok (.aload_n 0, 1) := by decide +kernel
theorem dX6_row_34 : decode cX6_row 34 = .ok (.getfield 33, 3) := by decide +kernel
theorem dX6_row_37 : decode cX6_row 37 = .ok (.aload_n 0, 1) := by decide +kernel
theorem dX6_row_38 : decode cX6_row 38 = .ok (.getfield 37, 3) := by decide +kernel
theorem dX6_row_41 : decode cX6_row 41 = .ok (.iload_n 1, 1) := by decide +kernel
theorem dX6_row_42 : decode cX6_row 42 = .ok (.iastore, 1) := by decide +kernel
theorem dX6_row_43 : decode cX6_row 43 = .ok (.aload_n 0, 1) := by decide +kernel
theorem dX6_row_44 : decode cX6_row 44 = .ok (.dup, 1) := by decide +kernel
theorem dX6_row_45 : decode cX6_row 45 = .ok (.getfield 37, 3) := by decide +kernel
theorem dX6_row_48 : decode cX6_row 48 = .ok (.iconst 1, 1) := by decide +kernel
theorem dX6_row_49 : decode cX6_row 49 = .ok (.iadd, 1) := by decide +kernel
theorem dX6_row_50 : decode cX6_row 50 = .ok (.putfield 37, 3) := by decide +kernel
theorem dX6_row_53 : decode cX6_row 53 = .ok (.aload_n 0, 1) := by decide +kernel
theorem dX6_row_54 : decode cX6_row 54 = .ok (.getfield 37, 3) := by decide +kernel
theorem dX6_row_57 : decode cX6_row 57 = .ok (.ireturn, 1) := by decide +kernel
theorem dX6_judge_0 : decode cX6_judge 0 = .ok (.iload_n 1, 1) := by decide +kernel
theorem dX6_judge_1 : decode cX6_judge 1 = .ok (.ifCond .lt 8, 3) := by decide +kernel
theorem dX6_judge_4 : decode cX6_judge 4 = .ok (.iload_n 1, 1) := by decide +kernel
theorem dX6_judge_5 : decode cX6_judge 5 = .ok (.iconst 2, 1) := by decide +kernel
theorem dX6_judge_6 : decode cX6_judge 6 = .ok (.if_icmp .le 10, 3) := by decide +kernel
theorem dX6_judge_9 : decode cX6_judge 9 = .ok (.aload_n 0, 1) := by decide +kernel
theorem dX6_judge_10 : decode cX6_judge 10 = .ok (.bipush (-2), 2) := by decide +kernel
theorem dX6_judge_12 : decode cX6_judge 12 = .ok (.invokevirtual 44, 3) := by decide +kernel
theorem dX6_judge_15 : decode cX6_judge 15 = .ok (.ireturn, 1) := by decide +kernel
theorem dX6_judge_16 : decode cX6_judge 16 = .ok (.aload_n 0, 1) := by decide +kernel
theorem dX6_judge_17 : decode cX6_judge 17 = .ok (.invokevirtual 209, 3) := by decide +kernel
theorem dX6_judge_20 : decode cX6_judge 20 = .ok (.ifCond .ne 9, 3) := by decide +kernel
theorem dX6_judge_23 : decode cX6_judge 23 = .ok (.aload_n 0, 1) := by decide +kernel
theorem dX6_judge_24 : decode cX6_judge 24 = .ok (.iconst (-1), 1) := by decide +kernel
theorem dX6_judge_25 : decode cX6_judge 25 = .ok (.invokevirtual 44, 3) := by decide +kernel
theorem dX6_judge_28 : decode cX6_judge 28 = .ok (.ireturn, 1) := by decide +kernel
theorem dX6_judge_29 : decode cX6_judge 29 = .ok (.aload_n 0, 1) := by decide +kernel
theorem dX6_judge_30 : decode cX6_judge 30 = .ok (.getfield 10, 3) := by decide +kernel
theorem dX6_judge_33 : decode cX6_judge 33 = .ok (.getfield 63, 3) := by decide +kernel
theorem dX6_judge_36 : decode cX6_judge 36 = .ok (.getfield 147, 3) := by decide +kernel
theorem dX6_judge_39 : decode cX6_judge 39 = .ok (.ifCond .ne 10, 3) := by decide +kernel
theorem dX6_judge_42 : decode cX6_judge 42 = .ok (.aload_n 0, 1) := by decide +kernel
theorem dX6_judge_43 : decode cX6_judge 43 = .ok (.bipush (-3), 2) := by decide +kernel
theorem dX6_judge_45 : decode cX6_judge 45 = .ok (.invokevirtual 44, 3) := by decide +kernel
theorem dX6_judge_48 : decode cX6_judge 48 = .ok (.ireturn, 1) := by decide +kernel
theorem dX6_judge_49 : decode cX6_judge 49 = .ok (.aload_n 0, 1) := by decide +kernel
theorem dX6_judge_50 : decode cX6_judge 50 = .ok (.getfield 16, 3) := by decide +kernel
theorem dX6_judge_53 : decode cX6_judge 53 = .ok (.aload_n 0, 1) := by decide +kernel
theorem dX6_judge_54 : decode cX6_judge 54 = .ok (.getfield 10, 3) := by decide +kernel
theorem dX6_judge_57 : decode cX6_judge 57 = .ok (.invokevirtual 55, 3) := by decide +kernel
theorem dX6_judge_60 : decode cX6_judge 60 = .ok (.bipush (-9), 2) := by decide +kernel
theorem dX6_judge_62 : decode cX6_judge 62 = .ok (.istore_n 2, 1) := by decide +kernel
theorem dX6_judge_63 : decode cX6_judge 63 = .ok (.lconst 0, 1) := by decide +kernel
theorem dX6_judge_64 : decode cX6_judge 64 = .ok (.lstore_n 3, 1) := by decide +kernel
theorem dX6_judge_65 : decode cX6_judge 65 = .ok (.iconst 0, 1) := by decide +kernel
theorem dX6_judge_66 : decode cX6_judge 66 = .ok (.istore 5, 2) := by decide +kernel
theorem dX6_judge_68 : decode cX6_judge 68 = .ok (.iload 5, 2) := by decide +kernel
theorem dX6_judge_70 : decode cX6_judge 70 = .ok (.aload_n 0, 1) := by decide +kernel
theorem dX6_judge_71 : decode cX6_judge 71 = .ok (.getfield 37, 3) := by decide +kernel
theorem dX6_judge_74 : decode cX6_judge 74 = .ok (.if_icmp .ge 64, 3) := by decide +kernel
theorem dX6_judge_77 : decode cX6_judge 77 = .ok (.aload_n 0, 1) := by decide +kernel
theorem dX6_judge_78 : decode cX6_judge 78 = .ok (.getfield 16, 3) := by decide +kernel
theorem dX6_judge_81 : decode cX6_judge 81 = .ok (.aload_n 0, 1) := by decide +kernel
theorem dX6_judge_82 : decode cX6_judge 82 = .ok (.getfield 33, 3) := by decide +kernel
theorem dX6_judge_85 : decode cX6_judge 85 = .ok (.iload 5, 2) := by decide +kernel
theorem dX6_judge_87 : decode cX6_judge 87 = .ok (.iaload, 1) := by decide +kernel
theorem dX6_judge_88 : decode cX6_judge 88 = .ok (.invokevirtual 213, 3) := by decide +kernel
theorem dX6_judge_91 : decode cX6_judge 91 = .ok (.lload_n 3, 1) := by decide +kernel
theorem dX6_judge_92 : decode cX6_judge 92 = .ok (.aload_n 0, 1) := by decide +kernel
theorem dX6_judge_93 : decode cX6_judge 93 = .ok (.getfield 16, 3) := by decide +kernel
theorem dX6_judge_96 : decode cX6_judge 96 = .ok (.invokevirtual 216, 3) := by decide +kernel
theorem dX6_judge_99 : decode cX6_judge 99 = .ok (.ladd, 1) := by decide +kernel
theorem dX6_judge_100 : decode cX6_judge 100 = .ok (.lstore_n 3, 1) := by decide +kernel
theorem dX6_judge_101 : decode cX6_judge 101 = .ok (.iload_n 2, 1) := by decide +kernel
theorem dX6_judge_102 : decode cX6_judge 102 = .ok (.bipush (-9), 2) := by decide +kernel
theorem dX6_judge_104 : decode cX6_judge 104 = .ok (.if_icmp .ne 28, 3) := by decide +kernel
theorem dX6_judge_107 : decode cX6_judge 107 = .ok (.aload_n 0, 1) := by decide +kernel
theorem dX6_judge_108 : decode cX6_judge 108 = .ok (.getfield 33, 3) := by decide +kernel
theorem dX6_judge_111 : decode cX6_judge 111 = .ok (.iload 5, 2) := by decide +kernel
theorem dX6_judge_113 : decode cX6_judge 113 = .ok (.iaload, 1) := by decide +kernel
theorem dX6_judge_114 : decode cX6_judge 114 = .ok (.bipush 9, 2) := by decide +kernel
theorem dX6_judge_116 : decode cX6_judge 116 = .ok (.if_icmp .eq 16, 3) := by decide +kernel
theorem dX6_judge_119 : decode cX6_judge 119 = .ok (.aload_n 0, 1) := by decide +kernel
theorem dX6_judge_120 : decode cX6_judge 120 = .ok (.getfield 16, 3) := by decide +kernel
theorem dX6_judge_123 : decode cX6_judge 123 = .ok (.getfield 220, 3) := by decide +kernel
theorem dX6_judge_126 : decode cX6_judge 126 = .ok (.ifCond .ne 6, 3) := by decide +kernel
theorem dX6_judge_129 : decode cX6_judge 129 = .ok (.iload 5, 2) := by decide +kernel
theorem dX6_judge_131 : decode cX6_judge 131 = .ok (.istore_n 2, 1) := by decide +kernel
theorem dX6_judge_132 : decode cX6_judge 132 = .ok (.iinc 5 1, 3) := by decide +kernel
theorem dX6_judge_135 : decode cX6_judge 135 = .ok (.goto (-67), 3) := by decide +kernel
theorem dX6_judge_138 : decode cX6_judge 138 = .ok (.aload_n 0, 1) := by decide +kernel
theorem dX6_judge_139 : decode cX6_judge 139 = .ok (.iconst 0, 1) := by decide +kernel
theorem dX6_judge_140 : decode cX6_judge 140 = .ok (.putfield 37, 3) := by decide +kernel
theorem dX6_judge_143 : decode cX6_judge 143 = .ok (.iload_n 1, 1) := by decide +kernel
theorem dX6_judge_144 : decode cX6_judge 144 = .ok (.ifCond .ne 5, 3) := by decide +kernel
theorem dX6_judge_147 : decode cX6_judge 147 = .ok (.iload_n 2, 1) := by decide +kernel
theorem dX6_judge_148 : decode cX6_judge 148 = .ok (.ireturn, 1) := by decide +kernel
theorem dX6_judge_149 : decode cX6_judge 149 = .ok (.iload_n 1, 1) := by decide +kernel
theorem dX6_judge_150 : decode cX6_judge 150 = .ok (.iconst 1, 1) := by decide +kernel
theorem dX6_judge_151 : decode cX6_judge 151 = .ok (.if_icmp .ne 8, 3) := by decide +kernel
theorem dX6_judge_154 : decode cX6_judge 154 = .ok (.lload_n 3, 1) := by decide +kernel
theorem dX6_judge_155 : decode cX6_judge 155 = .ok (.l2i, 1) := by decide +kernel
theorem dX6_judge_156 : decode cX6_judge 156 = .ok (.goto 13, 3) := by decide +kernel
theorem dX6_judge_159 : decode cX6_judge 159 = .ok (.aload_n 0, 1) := by decide +kernel
theorem dX6_judge_160 : decode cX6_judge 160 = .ok (.getfield 16, 3) := by decide +kernel
theorem dX6_judge_163 : decode cX6_judge 163 = .ok (.getfield 63, 3) := by decide +kernel
theorem dX6_judge_166 : decode cX6_judge 166 = .ok (.invokevirtual 223, 3) := by decide +kernel
theorem dX6_judge_169 : decode cX6_judge 169 = .ok (.ireturn, 1) := by decide +kernel
theorem dX6_image_0 : decode cX6_image 0 = .ok (.aload_n 0, 1) := by decide +kernel
theorem dX6_image_1 : decode cX6_image 1 = .ok (.getfield 19, 3) := by decide +kernel
theorem dX6_image_4 : decode cX6_image 4 = .ok (.aload_n 0, 1) := by decide +kernel
theorem dX6_image_5 : decode cX6_image 5 = .ok (.getfield 10, 3) := by decide +kernel
theorem dX6_image_8 : decode cX6_image 8 = .ok (.invokevirtual 55, 3) := by decide +kernel
theorem dX6_image_11 : decode cX6_image 11 = .ok (.aload_n 0, 1) := by decide +kernel
theorem dX6_image_12 : decode cX6_image 12 = .ok (.iconst 1, 1) := by decide +kernel
theorem dX6_image_13 : decode cX6_image 13 = .ok (.putfield 22, 3) := by decide +kernel
theorem dX6_image_16 : decode cX6_image 16 = .ok (.aload_n 0, 1) := by decide +kernel
theorem dX6_image_17 : decode cX6_image 17 = .ok (.getfield 19, 3) := by decide +kernel
theorem dX6_image_20 : decode cX6_image 20 = .ok (.getfield 63, 3) := by decide +kernel
theorem dX6_image_23 : decode cX6_image 23 = .ok (.getfield 147, 3) := by decide +kernel
theorem dX6_image_26 : decode cX6_image 26 = .ok (.ireturn, 1) := by decide +kernel
theorem dX6_restore_0 : decode cX6_restore 0 = .ok (.aload_n 0, 1) := by decide +kernel
theorem dX6_restore_1 : decode cX6_restore 1 = .ok (.getfield 22, 3) := by decide +kernel
theorem dX6_restore_4 : decode cX6_restore 4 = .ok (.ifCond .ne 10, 3) := by decide +kernel
theorem dX6_restore_7 : decode cX6_restore 7 = .ok (.aload_n 0, 1) := by decide +kernel
theorem dX6_restore_8 : decode cX6_restore 8 = .ok (.bipush (-3), 2) := by decide +kernel
theorem dX6_restore_10 : decode cX6_restore 10 = .ok (.invokevirtual 44, 3) := by decide +kernel
theorem dX6_restore_13 : decode cX6_restore 13 = .ok (.ireturn, 1) := by decide +kernel
theorem dX6_restore_14 : decode cX6_restore 14 = .ok (.aload_n 0, 1) := by decide +kernel
theorem dX6_restore_15 : decode cX6_restore 15 = .ok (.getfield 10, 3) := by decide +kernel
theorem dX6_restore_18 : decode cX6_restore 18 = .ok (.aload_n 0, 1) := by decide +kernel
theorem dX6_restore_19 : decode cX6_restore 19 = .ok (.getfield 19, 3) := by decide +kernel
theorem dX6_restore_22 : decode cX6_restore 22 = .ok (.invokevirtual 55, 3) := by decide +kernel
theorem dX6_restore_25 : decode cX6_restore 25 = .ok (.aload_n 0, 1) := by decide +kernel
theorem dX6_restore_26 : decode cX6_restore 26 = .ok (.getfield 10, 3) := by decide +kernel
theorem dX6_restore_29 : decode cX6_restore 29 = .ok (.getfield 63, 3) := by decide +kernel
theorem dX6_restore_32 : decode cX6_restore 32 = .ok (.getfield 147, 3) := by decide +kernel
theorem dX6_restore_35 : decode cX6_restore 35 = .ok (.ireturn, 1) := by decide +kernel
theorem dX6_count_0 : decode cX6_count 0 = .ok (.iload_n 1, 1) := by decide +kernel
theorem dX6_count_1 : decode cX6_count 1 = .ok (.bipush 11, 2) := by decide +kernel
theorem dX6_count_3 : decode cX6_count 3 = .ok (.if_icmp .lt 19, 3) := by decide +kernel
theorem dX6_count_6 : decode cX6_count 6 = .ok (.iload_n 1, 1) := by decide +kernel
theorem dX6_count_7 : decode cX6_count 7 = .ok (.bipush 16, 2) := by decide +kernel
theorem dX6_count_9 : decode cX6_count 9 = .ok (.if_icmp .gt 13, 3) := by decide +kernel
theorem dX6_count_12 : decode cX6_count 12 = .ok (.aload_n 0, 1) := by decide +kernel
theorem dX6_count_13 : decode cX6_count 13 = .ok (.getfield 41, 3) := by decide +kernel
theorem dX6_count_16 : decode cX6_count 16 = .ok (.iload_n 1, 1) := by decide +kernel
theorem dX6_count_17 : decode cX6_count 17 = .ok (.bipush 10, 2) := by decide +kernel
theorem dX6_count_19 : decode cX6_count 19 = .ok (.isub, 1) := by decide +kernel
theorem dX6_count_20 : decode cX6_count 20 = .ok (.iaload, 1) := by decide +kernel
theorem dX6_count_21 : decode cX6_count 21 = .ok (.ireturn, 1) := by decide +kernel
theorem dX6_count_22 : decode cX6_count 22 = .ok (.iload_n 1, 1) := by decide +kernel
theorem dX6_count_23 : decode cX6_count 23 = .ok (.tableswitch 142 0 9 #[53, 64, 75, 86, 94, 105, 113, 121, 129, 134], 53) := by decide +kernel
theorem dX6_count_76 : decode cX6_count 76 = .ok (.aload_n 0, 1) := by decide +kernel
theorem dX6_count_77 : decode cX6_count 77 = .ok (.getfield 10, 3) := by decide +kernel
theorem dX6_count_80 : decode cX6_count 80 = .ok (.getfield 63, 3) := by decide +kernel
theorem dX6_count_83 : decode cX6_count 83 = .ok (.getfield 147, 3) := by decide +kernel
theorem dX6_count_86 : decode cX6_count 86 = .ok (.ireturn, 1) := by decide +kernel
theorem dX6_count_87 : decode cX6_count 87 = .ok (.aload_n 0, 1) := by decide +kernel
theorem dX6_count_88 : decode cX6_count 88 = .ok (.getfield 10, 3) := by decide +kernel
theorem dX6_count_91 : decode cX6_count 91 = .ok (.getfield 88, 3) := by decide +kernel
theorem dX6_count_94 : decode cX6_count 94 = .ok (.getfield 195, 3) := by decide +kernel
theorem dX6_count_97 : decode cX6_count 97 = .ok (.ireturn, 1) := by decide +kernel
theorem dX6_count_98 : decode cX6_count 98 = .ok (.aload_n 0, 1) := by decide +kernel
theorem dX6_count_99 : decode cX6_count 99 = .ok (.getfield 10, 3) := by decide +kernel
theorem dX6_count_102 : decode cX6_count 102 = .ok (.getfield 196, 3) := by decide +kernel
theorem dX6_count_105 : decode cX6_count 105 = .ok (.getfield 226, 3) := by decide +kernel
theorem dX6_count_108 : decode cX6_count 108 = .ok (.ireturn, 1) := by decide +kernel
theorem dX6_count_109 : decode cX6_count 109 = .ok (.aload_n 0, 1) := by decide +kernel
theorem dX6_count_110 : decode cX6_count 110 = .ok (.getfield 10, 3) := by decide +kernel
theorem dX6_count_113 : decode cX6_count 113 = .ok (.getfield 166, 3) := by decide +kernel
theorem dX6_count_116 : decode cX6_count 116 = .ok (.ireturn, 1) := by decide +kernel
theorem dX6_count_117 : decode cX6_count 117 = .ok (.aload_n 0, 1) := by decide +kernel
theorem dX6_count_118 : decode cX6_count 118 = .ok (.getfield 10, 3) := by decide +kernel
theorem dX6_count_121 : decode cX6_count 121 = .ok (.getfield 63, 3) := by decide +kernel
theorem dX6_count_124 : decode cX6_count 124 = .ok (.invokevirtual 227, 3) := by decide +kernel
theorem dX6_count_127 : decode cX6_count 127 = .ok (.ireturn, 1) := by decide +kernel
theorem dX6_count_128 : decode cX6_count 128 = .ok (.aload_n 0, 1) := by decide +kernel
theorem dX6_count_129 : decode cX6_count 129 = .ok (.getfield 10, 3) := by decide +kernel
theorem dX6_count_132 : decode cX6_count 132 = .ok (.getfield 230, 3) := by decide +kernel
theorem dX6_count_135 : decode cX6_count 135 = .ok (.ireturn, 1) := by decide +kernel
theorem dX6_count_136 : decode cX6_count 136 = .ok (.aload_n 0, 1) := by decide +kernel
theorem dX6_count_137 : decode cX6_count 137 = .ok (.getfield 10, 3) := by decide +kernel
theorem dX6_count_140 : decode cX6_count 140 = .ok (.getfield 233, 3) := by decide +kernel
theorem dX6_count_143 : decode cX6_count 143 = .ok (.ireturn, 1) := by decide +kernel
theorem dX6_count_144 : decode cX6_count 144 = .ok (.aload_n 0, 1) := by decide +kernel
theorem dX6_count_145 : decode cX6_count 145 = .ok (.getfield 29, 3) := by decide +kernel
theorem dX6_count_148 : decode cX6_count 148 = .ok (.getfield 48, 3) := by decide +kernel
theorem dX6_count_151 : decode cX6_count 151 = .ok (.ireturn, 1) := by decide +kernel
theorem dX6_count_152 : decode cX6_count 152 = .ok (.aload_n 0, 1) := by decide +kernel
theorem dX6_count_153 : decode cX6_count 153 = .ok (.getfield 37, 3) := by decide +kernel
theorem dX6_count_156 : decode cX6_count 156 = .ok (.ireturn, 1) := by decide +kernel
theorem dX6_count_157 : decode cX6_count 157 = .ok (.aload_n 0, 1) := by decide +kernel
theorem dX6_count_158 : decode cX6_count 158 = .ok (.getfield 10, 3) := by decide +kernel
theorem dX6_count_161 : decode cX6_count 161 = .ok (.getfield 105, 3) := by decide +kernel
theorem dX6_count_164 : decode cX6_count 164 = .ok (.ireturn, 1) := by decide +kernel
theorem dX6_count_165 : decode cX6_count 165 = .ok (.bipush (-9), 2) := by decide +kernel
theorem dX6_count_167 : decode cX6_count 167 = .ok (.ireturn, 1) := by decide +kernel
theorem dX6_refuse_0 : decode cX6_refuse 0 = .ok (.iload_n 1, 1) := by decide +kernel
theorem dX6_refuse_1 : decode cX6_refuse 1 = .ok (.ineg, 1) := by decide +kernel
theorem dX6_refuse_2 : decode cX6_refuse 2 = .ok (.istore_n 2, 1) := by decide +kernel
theorem dX6_refuse_3 : decode cX6_refuse 3 = .ok (.iload_n 2, 1) := by decide +kernel
theorem dX6_refuse_4 : decode cX6_refuse 4 = .ok (.ifCond .lt 22, 3) := by decide +kernel
theorem dX6_refuse_7 : decode cX6_refuse 7 = .ok (.iload_n 2, 1) := by decide +kernel
theorem dX6_refuse_8 : decode cX6_refuse 8 = .ok (.aload_n 0, 1) := by decide +kernel
theorem dX6_refuse_9 : decode cX6_refuse 9 = .ok (.getfield 41, 3) := by decide +kernel
theorem dX6_refuse_12 : decode cX6_refuse 12 = .ok (.arraylength, 1) := by decide +kernel
theorem dX6_refuse_13 : decode cX6_refuse 13 = .ok (.if_icmp .ge 13, 3) := by decide +kernel
theorem dX6_refuse_16 : decode cX6_refuse 16 = .ok (.aload_n 0, 1) := by decide +kernel
theorem dX6_refuse_17 : decode cX6_refuse 17 = .ok (.getfield 41, 3) := by decide +kernel
theorem dX6_refuse_20 : decode cX6_refuse 20 = .ok (.iload_n 2, 1) := by decide +kernel
theorem dX6_refuse_21 : decode cX6_refuse 21 = .ok (.dup2, 1) := by decide +kernel
theorem dX6_refuse_22 : decode cX6_refuse 22 = .ok (.iaload, 1) := by decide +kernel
theorem dX6_refuse_23 : decode cX6_refuse 23 = .ok (.iconst 1, 1) := by decide +kernel
theorem dX6_refuse_24 : decode cX6_refuse 24 = .ok (.iadd, 1) := by decide +kernel
theorem dX6_refuse_25 : decode cX6_refuse 25 = .ok (.iastore, 1) := by decide +kernel
theorem dX6_refuse_26 : decode cX6_refuse 26 = .ok (.iload_n 1, 1) := by decide +kernel
theorem dX6_refuse_27 : decode cX6_refuse 27 = .ok (.ireturn, 1) := by decide +kernel
theorem dX6_refuseIfBelow0_0 : decode cX6_refuseIfBelow0 0 = .ok (.iload_n 1, 1) := by decide +kernel
theorem dX6_refuseIfBelow0_1 : decode cX6_refuseIfBelow0 1 = .ok (.ifCond .ge 11, 3) := by decide +kernel
theorem dX6_refuseIfBelow0_4 : decode cX6_refuseIfBelow0 4 = .ok (.aload_n 0, 1) := by decide +kernel
theorem dX6_refuseIfBelow0_5 : decode cX6_refuseIfBelow0 5 = .ok (.iload_n 1, 1) := by decide +kernel
theorem dX6_refuseIfBelow0_6 : decode cX6_refuseIfBelow0 6 = .ok (.invokevirtual 44, 3) := by decide +kernel
theorem dX6_refuseIfBelow0_9 : decode cX6_refuseIfBelow0 9 = .ok (.goto 4, 3) := by decide +kernel
theorem dX6_refuseIfBelow0_12 : decode cX6_refuseIfBelow0 12 = .ok (.iload_n 1, 1) := by decide +kernel
theorem dX6_refuseIfBelow0_13 : decode cX6_refuseIfBelow0 13 = .ok (.ireturn, 1) := by decide +kernel
theorem dX6_whyNoRun_0 : decode cX6_whyNoRun 0 = .ok (.iload_n 1, 1) := by decide +kernel
theorem dX6_whyNoRun_1 : decode cX6_whyNoRun 1 = .ok (.iconst 1, 1) := by decide +kernel
theorem dX6_whyNoRun_2 : decode cX6_whyNoRun 2 = .ok (.if_icmp .ge 6, 3) := by decide +kernel
theorem dX6_whyNoRun_5 : decode cX6_whyNoRun 5 = .ok (.bipush (-4), 2) := by decide +kernel
theorem dX6_whyNoRun_7 : decode cX6_whyNoRun 7 = .ok (.ireturn, 1) := by decide +kernel
theorem dX6_whyNoRun_8 : decode cX6_whyNoRun 8 = .ok (.iload_n 1, 1) := by decide +kernel
theorem dX6_whyNoRun_9 : decode cX6_whyNoRun 9 = .ok (.sipush 200, 3) := by decide +kernel
theorem dX6_whyNoRun_12 : decode cX6_whyNoRun 12 = .ok (.if_icmp .le 6, 3) := by decide +kernel
theorem dX6_whyNoRun_15 : decode cX6_whyNoRun 15 = .ok (.bipush (-6), 2) := by decide +kernel
theorem dX6_whyNoRun_17 : decode cX6_whyNoRun 17 = .ok (.ireturn, 1) := by decide +kernel
theorem dX6_whyNoRun_18 : decode cX6_whyNoRun 18 = .ok (.aload_n 0, 1) := by decide +kernel
theorem dX6_whyNoRun_19 : decode cX6_whyNoRun 19 = .ok (.getfield 10, 3) := by decide +kernel
theorem dX6_whyNoRun_22 : decode cX6_whyNoRun 22 = .ok (.getfield 63, 3) := by decide +kernel
theorem dX6_whyNoRun_25 : decode cX6_whyNoRun 25 = .ok (.getfield 147, 3) := by decide +kernel
theorem dX6_whyNoRun_28 : decode cX6_whyNoRun 28 = .ok (.ifCond .ne 8, 3) := by decide +kernel
theorem dX6_whyNoRun_31 : decode cX6_whyNoRun 31 = .ok (.bipush (-3), 2) := by decide +kernel
theorem dX6_whyNoRun_33 : decode cX6_whyNoRun 33 = .ok (.goto 4, 3) := by decide +kernel
theorem dX6_whyNoRun_36 : decode cX6_whyNoRun 36 = .ok (.iconst 0, 1) := by decide +kernel
theorem dX6_whyNoRun_37 : decode cX6_whyNoRun 37 = .ok (.ireturn, 1) := by decide +kernel
theorem dX6_rowIsOfCells_0 : decode cX6_rowIsOfCells 0 = .ok (.iconst 0, 1) := by decide +kernel
theorem dX6_rowIsOfCells_1 : decode cX6_rowIsOfCells 1 = .ok (.istore_n 1, 1) := by decide +kernel
theorem dX6_rowIsOfCells_2 : decode cX6_rowIsOfCells 2 = .ok (.iload_n 1, 1) := by decide +kernel
theorem dX6_rowIsOfCells_3 : decode cX6_rowIsOfCells 3 = .ok (.aload_n 0, 1) := by decide +kernel
theorem dX6_rowIsOfCells_4 : decode cX6_rowIsOfCells 4 = .ok (.getfield 37, 3) := by decide +kernel
theorem dX6_rowIsOfCells_7 : decode cX6_rowIsOfCells 7 = .ok (.if_icmp .ge 41, 3) := by decide +kernel
theorem dX6_rowIsOfCells_10 : decode cX6_rowIsOfCells 10 = .ok (.aload_n 0, 1) := by decide +kernel
theorem dX6_rowIsOfCells_11 : decode cX6_rowIsOfCells 11 = .ok (.getfield 33, 3) := by decide +kernel
theorem dX6_rowIsOfCells_14 : decode cX6_rowIsOfCells 14 = .ok (.iload_n 1, 1) := by decide +kernel
theorem dX6_rowIsOfCells_15 : decode cX6_rowIsOfCells 15 = .ok (.iaload, 1) := by decide +kernel
theorem dX6_rowIsOfCells_16 : decode cX6_rowIsOfCells 16 = .ok (.bipush 9, 2) := by decide +kernel
theorem dX6_rowIsOfCells_18 : decode cX6_rowIsOfCells 18 = .ok (.if_icmp .eq 24, 3) := by decide +kernel
theorem dX6_rowIsOfCells_21 : decode cX6_rowIsOfCells 21 = .ok (.aload_n 0, 1) := by decide +kernel
theorem dX6_rowIsOfCells_22 : decode cX6_rowIsOfCells 22 = .ok (.getfield 10, 3) := by decide +kernel
theorem dX6_rowIsOfCells_25 : decode cX6_rowIsOfCells 25 = .ok (.getfield 63, 3) := by decide +kernel
theorem dX6_rowIsOfCells_28 : decode cX6_rowIsOfCells 28 = .ok (.aload_n 0, 1) := by decide +kernel
theorem dX6_rowIsOfCells_29 : decode cX6_rowIsOfCells 29 = .ok (.getfield 33, 3) := by decide +kernel
theorem dX6_rowIsOfCells_32 : decode cX6_rowIsOfCells 32 = .ok (.iload_n 1, 1) := by decide +kernel
theorem dX6_rowIsOfCells_33 : decode cX6_rowIsOfCells 33 = .ok (.iaload, 1) := by decide +kernel
theorem dX6_rowIsOfCells_34 : decode cX6_rowIsOfCells 34 = .ok (.invokevirtual 76, 3) := by decide +kernel
theorem dX6_rowIsOfCells_37 : decode cX6_rowIsOfCells 37 = .ok (.ifCond .ne 5, 3) := by decide +kernel
theorem dX6_rowIsOfCells_40 : decode cX6_rowIsOfCells 40 = .ok (.iconst 0, 1) := by decide +kernel
theorem dX6_rowIsOfCells_41 : decode cX6_rowIsOfCells 41 = .ok (.ireturn, 1) := by decide +kernel
theorem dX6_rowIsOfCells_42 : decode cX6_rowIsOfCells 42 = .ok (.iinc 1 1, 3) := by decide +kernel
theorem dX6_rowIsOfCells_45 : decode cX6_rowIsOfCells 45 = .ok (.goto (-43), 3) := by decide +kernel
theorem dX6_rowIsOfCells_48 : decode cX6_rowIsOfCells 48 = .ok (.iconst 1, 1) := by decide +kernel
theorem dX6_rowIsOfCells_49 : decode cX6_rowIsOfCells 49 = .ok (.ireturn, 1) := by decide +kernel
theorem dX6_isStuff_0 : decode cX6_isStuff 0 = .ok (.iload_n 0, 1) := by decide +kernel
theorem dX6_isStuff_1 : decode cX6_isStuff 1 = .ok (.ifCond .eq 8, 3) := by decide +kernel
theorem dX6_isStuff_4 : decode cX6_isStuff 4 = .ok (.iload_n 0, 1) := by decide +kernel
theorem dX6_isStuff_5 : decode cX6_isStuff 5 = .ok (.iconst 1, 1) := by decide +kernel
theorem dX6_isStuff_6 : decode cX6_isStuff 6 = .ok (.if_icmp .ne 7, 3) := by decide +kernel
theorem dX6_isStuff_9 : decode cX6_isStuff 9 = .ok (.iconst 1, 1) := by decide +kernel
theorem dX6_isStuff_10 : decode cX6_isStuff 10 = .ok (.goto 4, 3) := by decide +kernel
theorem dX6_isStuff_13 : decode cX6_isStuff 13 = .ok (.iconst 0, 1) := by decide +kernel
theorem dX6_isStuff_14 : decode cX6_isStuff 14 = .ok (.ireturn, 1) := by decide +kernel
theorem dX6_isKind_0 : decode cX6_isKind 0 = .ok (.iload_n 0, 1) := by decide +kernel
theorem dX6_isKind_1 : decode cX6_isKind 1 = .ok (.ifCond .eq 8, 3) := by decide +kernel
theorem dX6_isKind_4 : decode cX6_isKind 4 = .ok (.iload_n 0, 1) := by decide +kernel
theorem dX6_isKind_5 : decode cX6_isKind 5 = .ok (.iconst 1, 1) := by decide +kernel
theorem dX6_isKind_6 : decode cX6_isKind 6 = .ok (.if_icmp .ne 7, 3) := by decide +kernel
theorem dX6_isKind_9 : decode cX6_isKind 9 = .ok (.iconst 1, 1) := by decide +kernel
theorem dX6_isKind_10 : decode cX6_isKind 10 = .ok (.goto 4, 3) := by decide +kernel
theorem dX6_isKind_13 : decode cX6_isKind 13 = .ok (.iconst 0, 1) := by decide +kernel
theorem dX6_isKind_14 : decode cX6_isKind 14 = .ok (.ireturn, 1) := by decide +kernel
theorem dX6_heapOf_0 : decode cX6_heapOf 0 = .ok (.iload_n 1, 1) := by decide +kernel
theorem dX6_heapOf_1 : decode cX6_heapOf 1 = .ok (.iconst 1, 1) := by decide +kernel
theorem dX6_heapOf_2 : decode cX6_heapOf 2 = .ok (.iand, 1) := by decide +kernel
theorem dX6_heapOf_3 : decode cX6_heapOf 3 = .ok (.bipush 8, 2) := by decide +kernel
theorem dX6_heapOf_5 : decode cX6_heapOf 5 = .ok (.imul, 1) := by decide +kernel
theorem dX6_heapOf_6 : decode cX6_heapOf 6 = .ok (.iload_n 0, 1) := by decide +kernel
theorem dX6_heapOf_7 : decode cX6_heapOf 7 = .ok (.bipush 7, 2) := by decide +kernel
theorem dX6_heapOf_9 : decode cX6_heapOf 9 = .ok (.iand, 1) := by decide +kernel
theorem dX6_heapOf_10 : decode cX6_heapOf 10 = .ok (.iadd, 1) := by decide +kernel
theorem dX6_heapOf_11 : decode cX6_heapOf 11 = .ok (.ireturn, 1) := by decide +kernel
theorem dX6_depthAbove_0 : decode cX6_depthAbove 0 = .ok (.iconst 0, 1) := by decide +kernel
theorem dX6_depthAbove_1 : decode cX6_depthAbove 1 = .ok (.iload_n 1, 1) := by decide +kernel
theorem dX6_depthAbove_2 : decode cX6_depthAbove 2 = .ok (.iload_n 0, 1) := by decide +kernel
theorem dX6_depthAbove_3 : decode cX6_depthAbove 3 = .ok (.bipush 100, 2) := by decide +kernel
theorem dX6_depthAbove_5 : decode cX6_depthAbove 5 = .ok (.idiv, 1) := by decide +kernel
theorem dX6_depthAbove_6 : decode cX6_depthAbove 6 = .ok (.isub, 1) := by decide +kernel
theorem dX6_depthAbove_7 : decode cX6_depthAbove 7 = .ok (.invokestatic 122, 3) := by decide +kernel
theorem dX6_depthAbove_10 : decode cX6_depthAbove 10 = .ok (.ireturn, 1) := by decide +kernel
theorem dX6_partOf_0 : decode cX6_partOf 0 = .ok (.iload_n 0, 1) := by decide +kernel
theorem dX6_partOf_1 : decode cX6_partOf 1 = .ok (.i2l, 1) := by decide +kernel
theorem dX6_partOf_2 : decode cX6_partOf 2 = .ok (.iload_n 1, 1) := by decide +kernel
theorem dX6_partOf_3 : decode cX6_partOf 3 = .ok (.i2l, 1) := by decide +kernel
theorem dX6_partOf_4 : decode cX6_partOf 4 = .ok (.lmul, 1) := by decide +kernel
theorem dX6_partOf_5 : decode cX6_partOf 5 = .ok (.ldc2_w 236, 3) := by decide +kernel
theorem dX6_partOf_8 : decode cX6_partOf 8 = .ok (.ldiv, 1) := by decide +kernel
theorem dX6_partOf_9 : decode cX6_partOf 9 = .ok (.l2i, 1) := by decide +kernel
theorem dX6_partOf_10 : decode cX6_partOf 10 = .ok (.ireturn, 1) := by decide +kernel
theorem dX7_init_0 : decode cX7_init 0 = .ok (.aload_n 0, 1) := by decide +kernel
theorem dX7_init_1 : decode cX7_init 1 = .ok (.invokespecial 1, 3) := by decide +kernel
theorem dX7_init_4 : decode cX7_init 4 = .ok (.aload_n 0, 1) := by decide +kernel
theorem dX7_init_5 : decode cX7_init 5 = .ok (.bipush 8, 2) := by decide +kernel
theorem dX7_init_7 : decode cX7_init 7 = .ok (.newarray .int, 2) := by decide +kernel
theorem dX7_init_9 : decode cX7_init 9 = .ok (.putfield 7, 3) := by decide +kernel
theorem dX7_init_12 : decode cX7_init 12 = .ok (.aload_n 0, 1) := by decide +kernel
theorem dX7_init_13 : decode cX7_init 13 = .ok (.bipush 8, 2) := by decide +kernel
theorem dX7_init_15 : decode cX7_init 15 = .ok (.newarray .int, 2) := by decide +kernel
theorem dX7_init_17 : decode cX7_init 17 = .ok (.putfield 13, 3) := by decide +kernel
theorem dX7_init_20 : decode cX7_init 20 = .ok (.aload_n 0, 1) := by decide +kernel
theorem dX7_init_21 : decode cX7_init 21 = .ok (.bipush 8, 2) := by decide +kernel
theorem dX7_init_23 : decode cX7_init 23 = .ok (.newarray .int, 2) := by decide +kernel
theorem dX7_init_25 : decode cX7_init 25 = .ok (.putfield 16, 3) := by decide +kernel
theorem dX7_init_28 : decode cX7_init 28 = .ok (.aload_n 0, 1) := by decide +kernel
theorem dX7_init_29 : decode cX7_init 29 = .ok (.bipush 8, 2) := by decide +kernel
theorem dX7_init_31 : decode cX7_init 31 = .ok (.newarray .int, 2) := by decide +kernel
theorem dX7_init_33 : decode cX7_init 33 = .ok (.putfield 19, 3) := by decide +kernel
theorem dX7_init_36 : decode cX7_init 36 = .ok (.aload_n 0, 1) := by decide +kernel
theorem dX7_init_37 : decode cX7_init 37 = .ok (.bipush 8, 2) := by decide +kernel
theorem dX7_init_39 : decode cX7_init 39 = .ok (.newarray .int, 2) := by decide +kernel
theorem dX7_init_41 : decode cX7_init 41 = .ok (.putfield 22, 3) := by decide +kernel
theorem dX7_init_44 : decode cX7_init 44 = .ok (.aload_n 0, 1) := by decide +kernel
theorem dX7_init_45 : decode cX7_init 45 = .ok (.bipush 16, 2) := by decide +kernel
theorem dX7_init_47 : decode cX7_init 47 = .ok (.newarray .int, 2) := by decide +kernel
theorem dX7_init_49 : decode cX7_init 49 = .ok (.putfield 25, 3) := by decide +kernel
theorem dX7_init_52 : decode cX7_init 52 = .ok (.aload_n 0, 1) := by decide +kernel
theorem dX7_init_53 : decode cX7_init 53 = .ok (.bipush 16, 2) := by decide +kernel
theorem dX7_init_55 : decode cX7_init 55 = .ok (.newarray .int, 2) := by decide +kernel
theorem dX7_init_57 : decode cX7_init 57 = .ok (.putfield 28, 3) := by decide +kernel
theorem dX7_init_60 : decode cX7_init 60 = .ok (.aload_n 0, 1) := by decide +kernel
theorem dX7_init_61 : decode cX7_init 61 = .ok (.bipush 24, 2) := by decide +kernel
theorem dX7_init_63 : decode cX7_init 63 = .ok (.newarray .int, 2) := by decide +kernel
theorem dX7_init_65 : decode cX7_init 65 = .ok (.putfield 31, 3) := by decide +kernel
theorem dX7_init_68 : decode cX7_init 68 = .ok (.aload_n 0, 1) := by decide +kernel
theorem dX7_init_69 : decode cX7_init 69 = .ok (.bipush 24, 2) := by decide +kernel
theorem dX7_init_71 : decode cX7_init 71 = .ok (.newarray .int, 2) := by decide +kernel
theorem dX7_init_73 : decode cX7_init 73 = .ok (.putfield 34, 3) := by decide +kernel
theorem dX7_init_76 : decode cX7_init 76 = .ok (.aload_n 0, 1) := by decide +kernel
theorem dX7_init_77 : decode cX7_init 77 = .ok (.bipush 24, 2) := by decide +kernel
theorem dX7_init_79 : decode cX7_init 79 = .ok (.newarray .int, 2) := by decide +kernel
theorem dX7_init_81 : decode cX7_init 81 = .ok (.putfield 37, 3) := by decide +kernel
theorem dX7_init_84 : decode cX7_init 84 = .ok (.aload_n 0, 1) := by decide +kernel
theorem dX7_init_85 : decode cX7_init 85 = .ok (.bipush 24, 2) := by decide +kernel
theorem dX7_init_87 : decode cX7_init 87 = .ok (.newarray .int, 2) := by decide +kernel
theorem dX7_init_89 : decode cX7_init 89 = .ok (.putfield 40, 3) := by decide +kernel
theorem dX7_init_92 : decode cX7_init 92 = .ok (.aload_n 0, 1) := by decide +kernel
theorem dX7_init_93 : decode cX7_init 93 = .ok (.bipush 24, 2) := by decide +kernel
theorem dX7_init_95 : decode cX7_init 95 = .ok (.newarray .int, 2) := by decide +kernel
theorem dX7_init_97 : decode cX7_init 97 = .ok (.putfield 43, 3) := by decide +kernel
theorem dX7_init_100 : decode cX7_init 100 = .ok (.aload_n 0, 1) := by decide +kernel
theorem dX7_init_101 : decode cX7_init 101 = .ok (.bipush 24, 2) := by decide +kernel
theorem dX7_init_103 : decode cX7_init 103 = .ok (.newarray .boolean, 2) := by decide +kernel
theorem dX7_init_105 : decode cX7_init 105 = .ok (.putfield 46, 3) := by decide +kernel
theorem dX7_init_108 : decode cX7_init 108 = .ok (.aload_n 0, 1) := by decide +kernel
theorem dX7_init_109 : decode cX7_init 109 = .ok (.bipush 8, 2) := by decide +kernel
theorem dX7_init_111 : decode cX7_init 111 = .ok (.newarray .int, 2) := by decide +kernel
theorem dX7_init_113 : decode cX7_init 113 = .ok (.putfield 50, 3) := by decide +kernel
theorem dX7_init_116 : decode cX7_init 116 = .ok (.aload_n 0, 1) := by decide +kernel
theorem dX7_init_117 : decode cX7_init 117 = .ok (.bipush 8, 2) := by decide +kernel
theorem dX7_init_119 : decode cX7_init 119 = .ok (.newarray .int, 2) := by decide +kernel
theorem dX7_init_121 : decode cX7_init 121 = .ok (.putfield 53, 3) := by decide +kernel
theorem dX7_init_124 : decode cX7_init 124 = .ok (.aload_n 0, 1) := by decide +kernel
theorem dX7_init_125 : decode cX7_init 125 = .ok (.bipush 8, 2) := by decide +kernel
theorem dX7_init_127 : decode cX7_init 127 = .ok (.newarray .int, 2) := by decide +kernel
theorem dX7_init_129 : decode cX7_init 129 = .ok (.putfield 56, 3) := by decide +kernel
theorem dX7_init_132 : decode cX7_init 132 = .ok (.aload_n 0, 1) := by decide +kernel
theorem dX7_init_133 : decode cX7_init 133 = .ok (.bipush 28, 2) := by decide +kernel
theorem dX7_init_135 : decode cX7_init 135 = .ok (.newarray .int, 2) := by decide +kernel
theorem dX7_init_137 : decode cX7_init 137 = .ok (.putfield 59, 3) := by decide +kernel
theorem dX7_init_140 : decode cX7_init 140 = .ok (.aload_n 0, 1) := by decide +kernel
theorem dX7_init_141 : decode cX7_init 141 = .ok (.iconst 1, 1) := by decide +kernel
theorem dX7_init_142 : decode cX7_init 142 = .ok (.putfield 62, 3) := by decide +kernel
theorem dX7_init_145 : decode cX7_init 145 = .ok (.aload_n 0, 1) := by decide +kernel
theorem dX7_init_146 : decode cX7_init 146 = .ok (.bipush 8, 2) := by decide +kernel
theorem dX7_init_148 : decode cX7_init 148 = .ok (.putfield 66, 3) := by decide +kernel
theorem dX7_init_151 : decode cX7_init 151 = .ok (.aload_n 0, 1) := by decide +kernel
theorem dX7_init_152 : decode cX7_init 152 = .ok (.iconst 1, 1) := by decide +kernel
theorem dX7_init_153 : decode cX7_init 153 = .ok (.putfield 69, 3) := by decide +kernel
theorem dX7_init_156 : decode cX7_init 156 = .ok (.aload_n 0, 1) := by decide +kernel
theorem dX7_init_157 : decode cX7_init 157 = .ok (.bipush 96, 2) := by decide +kernel
theorem dX7_init_159 : decode cX7_init 159 = .ok (.newarray .int, 2) := by decide +kernel
theorem dX7_init_161 : decode cX7_init 161 = .ok (.putfield 72, 3) := by decide +kernel
theorem dX7_init_164 : decode cX7_init 164 = .ok (.aload_n 0, 1) := by decide +kernel
theorem dX7_init_165 : decode cX7_init 165 = .ok (.bipush 28, 2) := by decide +kernel
theorem dX7_init_167 : decode cX7_init 167 = .ok (.newarray .int, 2) := by decide +kernel
theorem dX7_init_169 : decode cX7_init 169 = .ok (.putfield 75, 3) := by decide +kernel
theorem dX7_init_172 : decode cX7_init 172 = .ok (.aload_n 0, 1) := by decide +kernel
theorem dX7_init_173 : decode cX7_init 173 = .ok (.bipush 7, 2) := by decide +kernel
theorem dX7_init_175 : decode cX7_init 175 = .ok (.newarray .int, 2) := by decide +kernel
theorem dX7_init_177 : decode cX7_init 177 = .ok (.putfield 78, 3) := by decide +kernel
theorem dX7_init_180 : decode cX7_init 180 = .ok (.aload_n 0, 1) := by decide +kernel
theorem dX7_init_181 : decode cX7_init 181 = .ok (.iconst (-1), 1) := by decide +kernel
theorem dX7_init_182 : decode cX7_init 182 = .ok (.putfield 81, 3) := by decide +kernel
theorem dX7_init_185 : decode cX7_init 185 = .ok (.aload_n 0, 1) := by decide +kernel
theorem dX7_init_186 : decode cX7_init 186 = .ok (.bipush 16, 2) := by decide +kernel
theorem dX7_init_188 : decode cX7_init 188 = .ok (.newarray .int, 2) := by decide +kernel
theorem dX7_init_190 : decode cX7_init 190 = .ok (.putfield 84, 3) := by decide +kernel
theorem dX7_init_193 : decode cX7_init 193 = .ok (.aload_n 0, 1) := by decide +kernel
theorem dX7_init_194 : decode cX7_init 194 = .ok (.bipush 16, 2) := by decide +kernel
theorem dX7_init_196 : decode cX7_init 196 = .ok (.newarray .int, 2) := by decide +kernel
theorem dX7_init_198 : decode cX7_init 198 = .ok (.putfield 87, 3) := by decide +kernel
theorem dX7_init_201 : decode cX7_init 201 = .ok (.aload_n 0, 1) := by decide +kernel
theorem dX7_init_202 : decode cX7_init 202 = .ok (.bipush 16, 2) := by decide +kernel
theorem dX7_init_204 : decode cX7_init 204 = .ok (.newarray .int, 2) := by decide +kernel
theorem dX7_init_206 : decode cX7_init 206 = .ok (.putfield 90, 3) := by decide +kernel
theorem dX7_init_209 : decode cX7_init 209 = .ok (.aload_n 0, 1) := by decide +kernel
theorem dX7_init_210 : decode cX7_init 210 = .ok (.bipush 50, 2) := by decide +kernel
theorem dX7_init_212 : decode cX7_init 212 = .ok (.newarray .int, 2) := by decide +kernel
theorem dX7_init_214 : decode cX7_init 214 = .ok (.putfield 93, 3) := by decide +kernel
theorem dX7_init_217 : decode cX7_init 217 = .ok (.aload_n 0, 1) := by decide +kernel
theorem dX7_init_218 : decode cX7_init 218 = .ok (.bipush 50, 2) := by decide +kernel
theorem dX7_init_220 : decode cX7_init 220 = .ok (.newarray .int, 2) := by decide +kernel
theorem dX7_init_222 : decode cX7_init 222 = .ok (.putfield 96, 3) := by decide +kernel
theorem dX7_init_225 : decode cX7_init 225 = .ok (.aload_n 0, 1) := by decide +kernel
theorem dX7_init_226 : decode cX7_init 226 = .ok (.sipush 250, 3) := by decide +kernel
theorem dX7_init_229 : decode cX7_init 229 = .ok (.newarray .int, 2) := by decide +kernel
theorem dX7_init_231 : decode cX7_init 231 = .ok (.putfield 99, 3) := by decide +kernel
theorem dX7_init_234 : decode cX7_init 234 = .ok (.aload_n 0, 1) := by decide +kernel
theorem dX7_init_235 : decode cX7_init 235 = .ok (.bipush 28, 2) := by decide +kernel
theorem dX7_init_237 : decode cX7_init 237 = .ok (.newarray .int, 2) := by decide +kernel
theorem dX7_init_239 : decode cX7_init 239 = .ok (.putfield 102, 3) := by decide +kernel
theorem dX7_init_242 : decode cX7_init 242 = .ok (.aload_n 0, 1) := by decide +kernel
theorem dX7_init_243 : decode cX7_init 243 = .ok (.sipush 330, 3) := by decide +kernel
theorem dX7_init_246 : decode cX7_init 246 = .ok (.newarray .int, 2) := by decide +kernel
theorem dX7_init_248 : decode cX7_init 248 = .ok (.putfield 105, 3) := by decide +kernel
theorem dX7_init_251 : decode cX7_init 251 = .ok (.aload_n 0, 1) := by decide +kernel
theorem dX7_init_252 : decode cX7_init 252 = .ok (.iconst 0, 1) := by decide +kernel
theorem dX7_init_253 : decode cX7_init 253 = .ok (.putfield 108, 3) := by decide +kernel
theorem dX7_init_256 : decode cX7_init 256 = .ok (.return_, 1) := by decide +kernel
theorem dX7_in_0 : decode cX7_in 0 = .ok (.lload_n 0, 1) := by decide +kernel
theorem dX7_in_1 : decode cX7_in 1 = .ok (.lload_n 2, 1) := by decide +kernel
theorem dX7_in_2 : decode cX7_in 2 = .ok (.lcmp, 1) := by decide +kernel
theorem dX7_in_3 : decode cX7_in 3 = .ok (.ifCond .lt 14, 3) := by decide +kernel
theorem dX7_in_6 : decode cX7_in 6 = .ok (.lload_n 0, 1) := by decide +kernel
theorem dX7_in_7 : decode cX7_in 7 = .ok (.lload 4, 2) := by decide +kernel
theorem dX7_in_9 : decode cX7_in 9 = .ok (.lcmp, 1) := by decide +kernel
theorem dX7_in_10 : decode cX7_in 10 = .ok (.ifCond .gt 7, 3) := by decide +kernel
theorem dX7_in_13 : decode cX7_in 13 = .ok (.iconst 1, 1) := by decide +kernel
theorem dX7_in_14 : decode cX7_in 14 = .ok (.goto 4, 3) := by decide +kernel
theorem dX7_in_17 : decode cX7_in 17 = .ok (.iconst 0, 1) := by decide +kernel
theorem dX7_in_18 : decode cX7_in 18 = .ok (.ireturn, 1) := by decide +kernel
theorem dX7_refuse_0 : decode cX7_refuse 0 = .ok (.aload_n 0, 1) := by decide +kernel
theorem dX7_refuse_1 : decode cX7_refuse 1 = .ok (.getfield 78, 3) := by decide +kernel
theorem dX7_refuse_4 : decode cX7_refuse 4 = .ok (.iload_n 1, 1) := by decide +kernel
theorem dX7_refuse_5 : decode cX7_refuse 5 = .ok (.ineg, 1) := by decide +kernel
theorem dX7_refuse_6 : decode cX7_refuse 6 = .ok (.dup2, 1) := by decide +kernel
theorem dX7_refuse_7 : decode cX7_refuse 7 = .ok (.iaload, 1) := by decide +kernel
theorem dX7_refuse_8 : decode cX7_refuse 8 = .ok (.iconst 1, 1) := by decide +kernel
theorem dX7_refuse_9 : decode cX7_refuse 9 = .ok (.iadd, 1) := by decide +kernel
theorem dX7_refuse_10 : decode cX7_refuse 10 = .ok (.iastore, 1) := by decide +kernel
theorem dX7_refuse_11 : decode cX7_refuse 11 = .ok (.iload_n 1, 1) := by decide +kernel
theorem dX7_refuse_12 : decode cX7_refuse 12 = .ok (.ireturn, 1) := by decide +kernel
theorem dX7_isCell_0 : decode cX7_isCell 0 = .ok (.iload_n 1, 1) := by decide +kernel
theorem dX7_isCell_1 : decode cX7_isCell 1 = .ok (.i2l, 1) := by decide +kernel
theorem dX7_isCell_2 : decode cX7_isCell 2 = .ok (.lconst 0, 1) := by decide +kernel
theorem dX7_isCell_3 : decode cX7_isCell 3 = .ok (.aload_n 0, 1) := by decide +kernel
theorem dX7_isCell_4 : decode cX7_isCell 4 = .ok (.getfield 111, 3) := by decide +kernel
theorem dX7_isCell_7 : decode cX7_isCell 7 = .ok (.iconst 1, 1) := by decide +kernel
theorem dX7_isCell_8 : decode cX7_isCell 8 = .ok (.isub, 1) := by decide +kernel
theorem dX7_isCell_9 : decode cX7_isCell 9 = .ok (.i2l, 1) := by decide +kernel
theorem dX7_isCell_10 : decode cX7_isCell 10 = .ok (.invokestatic 114, 3) := by decide +kernel
theorem dX7_isCell_13 : decode cX7_isCell 13 = .ok (.ireturn, 1) := by decide +kernel
theorem dX7_isStuff_0 : decode cX7_isStuff 0 = .ok (.iload_n 0, 1) := by decide +kernel
theorem dX7_isStuff_1 : decode cX7_isStuff 1 = .ok (.i2l, 1) := by decide +kernel
theorem dX7_isStuff_2 : decode cX7_isStuff 2 = .ok (.lconst 0, 1) := by decide +kernel
theorem dX7_isStuff_3 : decode cX7_isStuff 3 = .ok (.lconst 1, 1) := by decide +kernel
theorem dX7_isStuff_4 : decode cX7_isStuff 4 = .ok (.invokestatic 114, 3) := by decide +kernel
theorem dX7_isStuff_7 : decode cX7_isStuff 7 = .ok (.ireturn, 1) := by decide +kernel
theorem dX7_addCell_0 : decode cX7_addCell 0 = .ok (.aload_n 0, 1) := by decide +kernel
theorem dX7_addCell_1 : decode cX7_addCell 1 = .ok (.getfield 7, 3) := by decide +kernel
theorem dX7_addCell_4 : decode cX7_addCell 4 = .ok (.aload_n 0, 1) := by decide +kernel
theorem dX7_addCell_5 : decode cX7_addCell 5 = .ok (.getfield 111, 3) := by decide +kernel
theorem dX7_addCell_8 : decode cX7_addCell 8 = .ok (.iload_n 1, 1) := by decide +kernel
theorem dX7_addCell_9 : decode cX7_addCell 9 = .ok (.iastore, 1) := by decide +kernel
theorem dX7_addCell_10 : decode cX7_addCell 10 = .ok (.aload_n 0, 1) := by decide +kernel
theorem dX7_addCell_11 : decode cX7_addCell 11 = .ok (.getfield 13, 3) := by decide +kernel
theorem dX7_addCell_14 : decode cX7_addCell 14 = .ok (.aload_n 0, 1) := by decide +kernel
theorem dX7_addCell_15 : decode cX7_addCell 15 = .ok (.getfield 111, 3) := by decide +kernel
theorem dX7_addCell_18 : decode cX7_addCell 18 = .ok (.iload_n 2, 1) := by decide +kernel
theorem dX7_addCell_19 : decode cX7_addCell 19 = .ok (.iastore, 1) := by decide +kernel
theorem dX7_addCell_20 : decode cX7_addCell 20 = .ok (.aload_n 0, 1) := by decide +kernel
theorem dX7_addCell_21 : decode cX7_addCell 21 = .ok (.getfield 16, 3) := by decide +kernel
theorem dX7_addCell_24 : decode cX7_addCell 24 = .ok (.aload_n 0, 1) := by decide +kernel
theorem dX7_addCell_25 : decode cX7_addCell 25 = .ok (.getfield 111, 3) := by decide +kernel
theorem dX7_addCell_28 : decode cX7_addCell 28 = .ok (.bipush 50, 2) := by decide +kernel
theorem dX7_addCell_30 : decode cX7_addCell 30 = .ok (.iastore, 1) := by decide +kernel
theorem dX7_addCell_31 : decode cX7_addCell 31 = .ok (.aload_n 0, 1) := by decide +kernel
theorem dX7_addCell_32 : decode cX7_addCell 32 = .ok (.getfield 19, 3) := by decide +kernel
theorem dX7_addCell_35 : decode cX7_addCell 35 = .ok (.aload_n 0, 1) := by decide +kernel
theorem dX7_addCell_36 : decode cX7_addCell 36 = .ok (.getfield 111, 3) := by decide +kernel
theorem dX7_addCell_39 : decode cX7_addCell 39 = .ok (.bipush 20, 2) := by decide +kernel
theorem dX7_addCell_41 : decode cX7_addCell 41 = .ok (.iastore, 1) := by decide +kernel
theorem dX7_addCell_42 : decode cX7_addCell 42 = .ok (.aload_n 0, 1) := by decide +kernel
theorem dX7_addCell_43 : decode cX7_addCell 43 = .ok (.getfield 22, 3) := by decide +kernel
theorem dX7_addCell_46 : decode cX7_addCell 46 = .ok (.aload_n 0, 1) := by decide +kernel
theorem dX7_addCell_47 : decode cX7_addCell 47 = .ok (.getfield 111, 3) := by decide +kernel
theorem dX7_addCell_50 : decode cX7_addCell 50 = .ok (.iconst 1, 1) := by decide +kernel
theorem dX7_addCell_51 : decode cX7_addCell 51 = .ok (.iastore, 1) := by decide +kernel
theorem dX7_addCell_52 : decode cX7_addCell 52 = .ok (.iconst 0, 1) := by decide +kernel
theorem dX7_addCell_53 : decode cX7_addCell 53 = .ok (.istore_n 3, 1) := by decide +kernel
theorem dX7_addCell_54 : decode cX7_addCell 54 = .ok (.iload_n 3, 1) := by decide +kernel
theorem dX7_addCell_55 : decode cX7_addCell 55 = .ok (.iconst 2, 1) := by decide +kernel
theorem dX7_addCell_56 : decode cX7_addCell 56 = .ok (.if_icmp .ge 37, 3) := by decide +kernel
theorem dX7_addCell_59 : decode cX7_addCell 59 = .ok (.aload_n 0, 1) := by decide +kernel
theorem dX7_addCell_60 : decode cX7_addCell 60 = .ok (.getfield 25, 3) := by decide +kernel
theorem dX7_addCell_63 : decode cX7_addCell 63 = .ok (.iconst 2, 1) := by decide +kernel
theorem dX7_addCell_64 : decode cX7_addCell 64 = .ok (.aload_n 0, 1) := by decide +kernel
theorem dX7_addCell_65 : decode cX7_addCell 65 = .ok (.getfield 111, 3) := by decide +kernel
theorem dX7_addCell_68 : decode cX7_addCell 68 = .ok (.imul, 1) := by decide +kernel
theorem dX7_addCell_69 : decode cX7_addCell 69 = .ok (.iload_n 3, 1) := by decide +kernel
theorem dX7_addCell_70 : decode cX7_addCell 70 = .ok (.iadd, 1) := by decide +kernel
theorem dX7_addCell_71 : decode cX7_addCell 71 = .ok (.iconst 0, 1) := by decide +kernel
theorem dX7_addCell_72 : decode cX7_addCell 72 = .ok (.iastore, 1) := by decide +kernel
theorem dX7_addCell_73 : decode cX7_addCell 73 = .ok (.aload_n 0, 1) := by decide +kernel
theorem dX7_addCell_74 : decode cX7_addCell 74 = .ok (.getfield 28, 3) := by decide +kernel
theorem dX7_addCell_77 : decode cX7_addCell 77 = .ok (.iconst 2, 1) := by decide +kernel
theorem dX7_addCell_78 : decode cX7_addCell 78 = .ok (.aload_n 0, 1) := by decide +kernel
theorem dX7_addCell_79 : decode cX7_addCell 79 = .ok (.getfield 111, 3) := by decide +kernel
theorem dX7_addCell_82 : decode cX7_addCell 82 = .ok (.imul, 1) := by decide +kernel
theorem dX7_addCell_83 : decode cX7_addCell 83 = .ok (.iload_n 3, 1) := by decide +kernel
theorem dX7_addCell_84 : decode cX7_addCell 84 = .ok (.iadd, 1) := by decide +kernel
theorem dX7_addCell_85 : decode cX7_addCell 85 = .ok (.iconst 0, 1) := by decide +kernel
theorem dX7_addCell_86 : decode cX7_addCell 86 = .ok (.iastore, 1) := by decide +kernel
theorem dX7_addCell_87 : decode cX7_addCell 87 = .ok (.iinc 3 1, 3) := by decide +kernel
theorem dX7_addCell_90 : decode cX7_addCell 90 = .ok (.goto (-36), 3) := by decide +kernel
theorem dX7_addCell_93 : decode cX7_addCell 93 = .ok (.aload_n 0, 1) := by decide +kernel
theorem dX7_addCell_94 : decode cX7_addCell 94 = .ok (.dup, 1) := by decide +kernel
theorem dX7_addCell_95 : decode cX7_addCell 95 = .ok (.getfield 111, 3) := by decide +kernel
theorem dX7_addCell_98 : decode cX7_addCell 98 = .ok (.iconst 1, 1) := by decide +kernel
theorem dX7_addCell_99 : decode cX7_addCell 99 = .ok (.iadd, 1) := by decide +kernel
theorem dX7_addCell_100 : decode cX7_addCell 100 = .ok (.putfield 111, 3) := by decide +kernel
theorem dX7_addCell_103 : decode cX7_addCell 103 = .ok (.return_, 1) := by decide +kernel
theorem dX7_cell_0 : decode cX7_cell 0 = .ok (.iload_n 1, 1) := by decide +kernel
theorem dX7_cell_1 : decode cX7_cell 1 = .ok (.iconst 1, 1) := by decide +kernel
theorem dX7_cell_2 : decode cX7_cell 2 = .ok (.if_icmp .lt 7, 3) := by decide +kernel
theorem dX7_cell_5 : decode cX7_cell 5 = .ok (.iload_n 2, 1) := by decide +kernel
theorem dX7_cell_6 : decode cX7_cell 6 = .ok (.ifCond .ge 10, 3) := by decide +kernel
theorem dX7_cell_9 : decode cX7_cell 9 = .ok (.aload_n 0, 1) := by decide +kernel
theorem dX7_cell_10 : decode cX7_cell 10 = .ok (.bipush (-4), 2) := by decide +kernel
theorem dX7_cell_12 : decode cX7_cell 12 = .ok (.invokevirtual 118, 3) := by decide +kernel
theorem dX7_cell_15 : decode cX7_cell 15 = .ok (.ireturn, 1) := by decide +kernel
theorem dX7_cell_16 : decode cX7_cell 16 = .ok (.iload_n 1, 1) := by decide +kernel
theorem dX7_cell_17 : decode cX7_cell 17 = .ok (.bipush 99, 2) := by decide +kernel
theorem dX7_cell_19 : decode cX7_cell 19 = .ok (.if_icmp .gt 18, 3) := by decide +kernel
theorem dX7_cell_22 : decode cX7_cell 22 = .ok (.iload_n 2, 1) := by decide +kernel
theorem dX7_cell_23 : decode cX7_cell 23 = .ok (.bipush 99, 2) := by decide +kernel
theorem dX7_cell_25 : decode cX7_cell 25 = .ok (.if_icmp .gt 12, 3) := by decide +kernel
theorem dX7_cell_28 : decode cX7_cell 28 = .ok (.aload_n 0, 1) := by decide +kernel
theorem dX7_cell_29 : decode cX7_cell 29 = .ok (.getfield 111, 3) := by decide +kernel
theorem dX7_cell_32 : decode cX7_cell 32 = .ok (.bipush 8, 2) := by decide +kernel
theorem dX7_cell_34 : decode cX7_cell 34 = .ok (.if_icmp .ne 10, 3) := by decide +kernel
theorem dX7_cell_37 : decode cX7_cell 37 = .ok (.aload_n 0, 1) := by decide +kernel
theorem dX7_cell_38 : decode cX7_cell 38 = .ok (.bipush (-6), 2) := by decide +kernel
theorem dX7_cell_40 : decode cX7_cell 40 = .ok (.invokevirtual 118, 3) := by decide +kernel
theorem dX7_cell_43 : decode cX7_cell 43 = .ok (.ireturn, 1) := by decide +kernel
theorem dX7_cell_44 : decode cX7_cell 44 = .ok (.aload_n 0, 1) := by decide +kernel
theorem dX7_cell_45 : decode cX7_cell 45 = .ok (.iload_n 1, 1) := by decide +kernel
theorem dX7_cell_46 : decode cX7_cell 46 = .ok (.iload_n 2, 1) := by decide +kernel
theorem dX7_cell_47 : decode cX7_cell 47 = .ok (.invokevirtual 122, 3) := by decide +kernel
theorem dX7_cell_50 : decode cX7_cell 50 = .ok (.aload_n 0, 1) := by decide +kernel
theorem dX7_cell_51 : decode cX7_cell 51 = .ok (.getfield 111, 3) := by decide +kernel
theorem dX7_cell_54 : decode cX7_cell 54 = .ok (.iconst 1, 1) := by decide +kernel
theorem dX7_cell_55 : decode cX7_cell 55 = .ok (.isub, 1) := by decide +kernel
theorem dX7_cell_56 : decode cX7_cell 56 = .ok (.ireturn, 1) := by decide +kernel
theorem dX7_set_0 : decode cX7_set 0 = .ok (.aload_n 0, 1) := by decide +kernel
theorem dX7_set_1 : decode cX7_set 1 = .ok (.iload_n 1, 1) := by decide +kernel
theorem dX7_set_2 : decode cX7_set 2 = .ok (.invokevirtual 126, 3) := by decide +kernel
theorem dX7_set_5 : decode cX7_set 5 = .ok (.ifCond .ne 9, 3) := by decide +kernel
theorem dX7_set_8 : decode cX7_set 8 = .ok (.aload_n 0, 1) := by decide +kernel
theorem dX7_set_9 : decode cX7_set 9 = .ok (.iconst (-1), 1) := by decide +kernel
theorem dX7_set_10 : decode cX7_set 10 = .ok (.invokevirtual 118, 3) := by decide +kernel
theorem dX7_set_13 : decode cX7_set 13 = .ok (.ireturn, 1) := by decide +kernel
theorem dX7_set_14 : decode cX7_set 14 = .ok (.iload_n 2, 1) := by decide +kernel
theorem dX7_set_15 : decode cX7_set 15 = .ok (.i2l, 1) := by decide +kernel
theorem dX7_set_16 : decode cX7_set 16 = .ok (.lconst 0, 1) := by decide +kernel
theorem dX7_set_17 : decode cX7_set 17 = .ok (.ldc2_w 130, 3) := by decide +kernel
theorem dX7_set_20 : decode cX7_set 20 = .ok (.invokestatic 114, 3) := by decide +kernel
theorem dX7_set_23 : decode cX7_set 23 = .ok (.ifCond .ne 10, 3) := by decide +kernel
theorem dX7_set_26 : decode cX7_set 26 = .ok (.aload_n 0, 1) := by decide +kernel
theorem dX7_set_27 : decode cX7_set 27 = .ok (.bipush (-2), 2) := by decide +kernel
theorem dX7_set_29 : decode cX7_set 29 = .ok (.invokevirtual 118, 3) := by decide +kernel
theorem dX7_set_32 : decode cX7_set 32 = .ok (.ireturn, 1) := by decide +kernel
theorem dX7_set_33 : decode cX7_set 33 = .ok (.iload_n 3, 1) := by decide +kernel
theorem dX7_set_34 : decode cX7_set 34 = .ok (.ifCond .ge 10, 3) := by decide +kernel
theorem dX7_set_37 : decode cX7_set 37 = .ok (.aload_n 0, 1) := by decide +kernel
theorem dX7_set_38 : decode cX7_set 38 = .ok (.bipush (-4), 2) := by decide +kernel
theorem dX7_set_40 : decode cX7_set 40 = .ok (.invokevirtual 118, 3) := by decide +kernel
theorem dX7_set_43 : decode cX7_set 43 = .ok (.ireturn, 1) := by decide +kernel
theorem dX7_set_44 : decode cX7_set 44 = .ok (.iload_n 3, 1) := by decide +kernel
theorem dX7_set_45 : decode cX7_set 45 = .ok (.iload_n 2, 1) := by decide +kernel
theorem dX7_set_46 : decode cX7_set 46 = .ok (.iconst 2, 1) := by decide +kernel
theorem dX7_set_47 : decode cX7_set 47 = .ok (.if_icmp .ge 8, 3) := by decide +kernel
theorem dX7_set_50 : decode cX7_set 50 = .ok (.bipush 100, 2) := by decide +kernel
theorem dX7_set_52 : decode cX7_set 52 = .ok (.goto 5, 3) := by decide +kernel
theorem dX7_set_55 : decode cX7_set 55 = .ok (.bipush 99, 2) := by decide +kernel
theorem dX7_set_57 : decode cX7_set 57 = .ok (.if_icmp .le 10, 3) := by decide +kernel
theorem dX7_set_60 : decode cX7_set 60 = .ok (.aload_n 0, 1) := by decide +kernel
theorem dX7_set_61 : decode cX7_set 61 = .ok (.bipush (-6), 2) := by decide +kernel
theorem dX7_set_63 : decode cX7_set 63 = .ok (.invokevirtual 118, 3) := by decide +kernel
theorem dX7_set_66 : decode cX7_set 66 = .ok (.ireturn, 1) := by decide +kernel
theorem dX7_set_67 : decode cX7_set 67 = .ok (.iload_n 2, 1) := by decide +kernel
theorem dX7_set_68 : decode cX7_set 68 = .ok (.ifCond .ne 12, 3) := by decide +kernel
theorem dX7_set_71 : decode cX7_set 71 = .ok (.aload_n 0, 1) := by decide +kernel
theorem dX7_set_72 : decode cX7_set 72 = .ok (.getfield 16, 3) := by decide +kernel
theorem dX7_set_75 : decode cX7_set 75 = .ok (.iload_n 1, 1) := by decide +kernel
theorem dX7_set_76 : decode cX7_set 76 = .ok (.iaload, 1) := by decide +kernel
theorem dX7_set_77 : decode cX7_set 77 = .ok (.goto 37, 3) := by decide +kernel
theorem dX7_set_80 : decode cX7_set 80 = .ok (.iload_n 2, 1) := by decide +kernel
theorem dX7_set_81 : decode cX7_set 81 = .ok (.iconst 1, 1) := by decide +kernel
theorem dX7_set_82 : decode cX7_set 82 = .ok (.if_icmp .ne 12, 3) := by decide +kernel
theorem dX7_set_85 : decode cX7_set 85 = .ok (.aload_n 0, 1) := by decide +kernel
theorem dX7_set_86 : decode cX7_set 86 = .ok (.getfield 19, 3) := by decide +kernel
theorem dX7_set_89 : decode cX7_set 89 = .ok (.iload_n 1, 1) := by decide +kernel
theorem dX7_set_90 : decode cX7_set 90 = .ok (.iaload, 1) := by decide +kernel
theorem dX7_set_91 : decode cX7_set 91 = .ok (.goto 23, 3) := by decide +kernel
theorem dX7_set_94 : decode cX7_set 94 = .ok (.iload_n 2, 1) := by decide +kernel
theorem dX7_set_95 : decode cX7_set 95 = .ok (.iconst 2, 1) := by decide +kernel
theorem dX7_set_96 : decode cX7_set 96 = .ok (.if_icmp .ne 12, 3) := by decide +kernel
theorem dX7_set_99 : decode cX7_set 99 = .ok (.aload_n 0, 1) := by decide +kernel
theorem dX7_set_100 : decode cX7_set 100 = .ok (.getfield 22, 3) := by decide +kernel
theorem dX7_set_103 : decode cX7_set 103 = .ok (.iload_n 1, 1) := by decide +kernel
theorem dX7_set_104 : decode cX7_set 104 = .ok (.iaload, 1) := by decide +kernel
theorem dX7_set_105 : decode cX7_set 105 = .ok (.goto 9, 3) := by decide +kernel
theorem dX7_set_108 : decode cX7_set 108 = .ok (.aload_n 0, 1) := by decide +kernel
theorem dX7_set_109 : decode cX7_set 109 = .ok (.getfield 13, 3) := by decide +kernel
theorem dX7_set_112 : decode cX7_set 112 = .ok (.iload_n 1, 1) := by decide +kernel
theorem dX7_set_113 : decode cX7_set 113 = .ok (.iaload, 1) := by decide +kernel
theorem dX7_set_114 : decode cX7_set 114 = .ok (.istore 4, 2) := by decide +kernel
theorem dX7_set_116 : decode cX7_set 116 = .ok (.aload_n 0, 1) := by decide +kernel
theorem dX7_set_117 : decode cX7_set 117 = .ok (.getfield 16, 3) := by decide +kernel
theorem dX7_set_120 : decode cX7_set 120 = .ok (.iload_n 1, 1) := by decide +kernel
theorem dX7_set_121 : decode cX7_set 121 = .ok (.iload_n 2, 1) := by decide +kernel
theorem dX7_set_122 : decode cX7_set 122 = .ok (.ifCond .ne 7, 3) := by decide +kernel
theorem dX7_set_125 : decode cX7_set 125 = .ok (.iload_n 3, 1) := by decide +kernel
theorem dX7_set_126 : decode cX7_set 126 = .ok (.goto 9, 3) := by decide +kernel
theorem dX7_set_129 : decode cX7_set 129 = .ok (.aload_n 0, 1) := by decide +kernel
theorem dX7_set_130 : decode cX7_set 130 = .ok (.getfield 16, 3) := by decide +kernel
theorem dX7_set_133 : decode cX7_set 133 = .ok (.iload_n 1, 1) := by decide +kernel
theorem dX7_set_134 : decode cX7_set 134 = .ok (.iaload, 1) := by decide +kernel
theorem dX7_set_135 : decode cX7_set 135 = .ok (.iastore, 1) := by decide +kernel
theorem dX7_set_136 : decode cX7_set 136 = .ok (.aload_n 0, 1) := by decide +kernel
theorem dX7_set_137 : decode cX7_set 137 = .ok (.getfield 19, 3) := by decide +kernel
theorem dX7_set_140 : decode cX7_set 140 = .ok (.iload_n 1, 1) := by decide +kernel
theorem dX7_set_141 : decode cX7_set 141 = .ok (.iload_n 2, 1) := by decide +kernel
theorem dX7_set_142 : decode cX7_set 142 = .ok (.iconst 1, 1) := by decide +kernel
theorem dX7_set_143 : decode cX7_set 143 = .ok (.if_icmp .ne 7, 3) := by decide +kernel
theorem dX7_set_146 : decode cX7_set 146 = .ok (.iload_n 3, 1) := by decide +kernel
theorem dX7_set_147 : decode cX7_set 147 = .ok (.goto 9, 3) := by decide +kernel
theorem dX7_set_150 : decode cX7_set 150 = .ok (.aload_n 0, 1) := by decide +kernel
theorem dX7_set_151 : decode cX7_set 151 = .ok (.getfield 19, 3) := by decide +kernel
theorem dX7_set_154 : decode cX7_set 154 = .ok (.iload_n 1, 1) := by decide +kernel
theorem dX7_set_155 : decode cX7_set 155 = .ok (.iaload, 1) := by decide +kernel
theorem dX7_set_156 : decode cX7_set 156 = .ok (.iastore, 1) := by decide +kernel
theorem dX7_set_157 : decode cX7_set 157 = .ok (.aload_n 0, 1) := by decide +kernel
theorem dX7_set_158 : decode cX7_set 158 = .ok (.getfield 22, 3) := by decide +kernel
theorem dX7_set_161 : decode cX7_set 161 = .ok (.iload_n 1, 1) := by decide +kernel
theorem dX7_set_162 : decode cX7_set 162 = .ok (.iload_n 2, 1) := by decide +kernel
theorem dX7_set_163 : decode cX7_set 163 = .ok (.iconst 2, 1) := by decide +kernel
theorem dX7_set_164 : decode cX7_set 164 = .ok (.if_icmp .ne 7, 3) := by decide +kernel
theorem dX7_set_167 : decode cX7_set 167 = .ok (.iload_n 3, 1) := by decide +kernel
theorem dX7_set_168 : decode cX7_set 168 = .ok (.goto 9, 3) := by decide +kernel
theorem dX7_set_171 : decode cX7_set 171 = .ok (.aload_n 0, 1) := by decide +kernel
theorem dX7_set_172 : decode cX7_set 172 = .ok (.getfield 22, 3) := by decide +kernel
theorem dX7_set_175 : decode cX7_set 175 = .ok (.iload_n 1, 1) := by decide +kernel
theorem dX7_set_176 : decode cX7_set 176 = .ok (.iaload, 1) := by decide +kernel
theorem dX7_set_177 : decode cX7_set 177 = .ok (.iastore, 1) := by decide +kernel
theorem dX7_set_178 : decode cX7_set 178 = .ok (.aload_n 0, 1) := by decide +kernel
theorem dX7_set_179 : decode cX7_set 179 = .ok (.getfield 13, 3) := by decide +kernel
theorem dX7_set_182 : decode cX7_set 182 = .ok (.iload_n 1, 1) := by decide +kernel
theorem dX7_set_183 : decode cX7_set 183 = .ok (.iload_n 2, 1) := by decide +kernel
theorem dX7_set_184 : decode cX7_set 184 = .ok (.iconst 3, 1) := by decide +kernel
theorem dX7_set_185 : decode cX7_set 185 = .ok (.if_icmp .ne 7, 3) := by decide +kernel
theorem dX7_set_188 : decode cX7_set 188 = .ok (.iload_n 3, 1) := by decide +kernel
theorem dX7_set_189 : decode cX7_set 189 = .ok (.goto 9, 3) := by decide +kernel
theorem dX7_set_192 : decode cX7_set 192 = .ok (.aload_n 0, 1) := by decide +kernel
theorem dX7_set_193 : decode cX7_set 193 = .ok (.getfield 13, 3) := by decide +kernel
theorem dX7_set_196 : decode cX7_set 196 = .ok (.iload_n 1, 1) := by decide +kernel
theorem dX7_set_197 : decode cX7_set 197 = .ok (.iaload, 1) := by decide +kernel
theorem dX7_set_198 : decode cX7_set 198 = .ok (.iastore, 1) := by decide +kernel
theorem dX7_set_199 : decode cX7_set 199 = .ok (.iload 4, 2) := by decide +kernel
theorem dX7_set_201 : decode cX7_set 201 = .ok (.ireturn, 1) := by decide +kernel
theorem dX7_partsFrom_0 : decode cX7_partsFrom 0 = .ok (.iconst 0, 1) := by decide +kernel
theorem dX7_partsFrom_1 : decode cX7_partsFrom 1 = .ok (.istore 4, 2) := by decide +kernel
theorem dX7_partsFrom_3 : decode cX7_partsFrom 3 = .ok (.iconst 0, 1) := by decide +kernel
theorem dX7_partsFrom_4 : decode cX7_partsFrom 4 = .ok (.istore 5, 2) := by decide +kernel
theorem dX7_partsFrom_6 : decode cX7_partsFrom 6 = .ok (.iload 5, 2) := by decide +kernel
theorem dX7_partsFrom_8 : decode cX7_partsFrom 8 = .ok (.aload_n 0, 1) := by decide +kernel
theorem dX7_partsFrom_9 : decode cX7_partsFrom 9 = .ok (.getfield 132, 3) := by decide +kernel
theorem dX7_partsFrom_12 : decode cX7_partsFrom 12 = .ok (.if_icmp .ge 58, 3) := by decide +kernel
theorem dX7_partsFrom_15 : decode cX7_partsFrom 15 = .ok (.iload 4, 2) := by decide +kernel
theorem dX7_partsFrom_17 : decode cX7_partsFrom 17 = .ok (.aload_n 0, 1) := by decide +kernel
theorem dX7_partsFrom_18 : decode cX7_partsFrom 18 = .ok (.getfield 31, 3) := by decide +kernel
theorem dX7_partsFrom_21 : decode cX7_partsFrom 21 = .ok (.iload 5, 2) := by decide +kernel
theorem dX7_partsFrom_23 : decode cX7_partsFrom 23 = .ok (.iaload, 1) := by decide +kernel
theorem dX7_partsFrom_24 : decode cX7_partsFrom 24 = .ok (.iload_n 1, 1) := by decide +kernel
theorem dX7_partsFrom_25 : decode cX7_partsFrom 25 = .ok (.if_icmp .ne 35, 3) := by decide +kernel
theorem dX7_partsFrom_28 : decode cX7_partsFrom 28 = .ok (.aload_n 0, 1) := by decide +kernel
theorem dX7_partsFrom_29 : decode cX7_partsFrom 29 = .ok (.getfield 37, 3) := by decide +kernel
theorem dX7_partsFrom_32 : decode cX7_partsFrom 32 = .ok (.iload 5, 2) := by decide +kernel
theorem dX7_partsFrom_34 : decode cX7_partsFrom 34 = .ok (.iaload, 1) := by decide +kernel
theorem dX7_partsFrom_35 : decode cX7_partsFrom 35 = .ok (.iload_n 2, 1) := by decide +kernel
theorem dX7_partsFrom_36 : decode cX7_partsFrom 36 = .ok (.if_icmp .ne 24, 3) := by decide +kernel
theorem dX7_partsFrom_39 : decode cX7_partsFrom 39 = .ok (.aload_n 0, 1) := by decide +kernel
theorem dX7_partsFrom_40 : decode cX7_partsFrom 40 = .ok (.getfield 40, 3) := by decide +kernel
theorem dX7_partsFrom_43 : decode cX7_partsFrom 43 = .ok (.iload 5, 2) := by decide +kernel
theorem dX7_partsFrom_45 : decode cX7_partsFrom 45 = .ok (.iaload, 1) := by decide +kernel
theorem dX7_partsFrom_46 : decode cX7_partsFrom 46 = .ok (.iload_n 3, 1) := by decide +kernel
theorem dX7_partsFrom_47 : decode cX7_partsFrom 47 = .ok (.if_icmp .ne 13, 3) := by decide +kernel
theorem dX7_partsFrom_50 : decode cX7_partsFrom 50 = .ok (.aload_n 0, 1) := by decide +kernel
theorem dX7_partsFrom_51 : decode cX7_partsFrom 51 = .ok (.getfield 43, 3) := by decide +kernel
theorem dX7_partsFrom_54 : decode cX7_partsFrom 54 = .ok (.iload 5, 2) := by decide +kernel
theorem dX7_partsFrom_56 : decode cX7_partsFrom 56 = .ok (.iaload, 1) := by decide +kernel
theorem dX7_partsFrom_57 : decode cX7_partsFrom 57 = .ok (.goto 4, 3) := by decide +kernel
theorem dX7_partsFrom_60 : decode cX7_partsFrom 60 = .ok (.iconst 0, 1) := by decide +kernel
theorem dX7_partsFrom_61 : decode cX7_partsFrom 61 = .ok (.iadd, 1) := by decide +kernel
theorem dX7_partsFrom_62 : decode cX7_partsFrom 62 = .ok (.istore 4, 2) := by decide +kernel
theorem dX7_partsFrom_64 : decode cX7_partsFrom 64 = .ok (.iinc 5 1, 3) := by decide +kernel
theorem dX7_partsFrom_67 : decode cX7_partsFrom 67 = .ok (.goto (-61), 3) := by decide +kernel
theorem dX7_partsFrom_70 : decode cX7_partsFrom 70 = .ok (.iload 4, 2) := by decide +kernel
theorem dX7_partsFrom_72 : decode cX7_partsFrom 72 = .ok (.ireturn, 1) := by decide +kernel
theorem dX7_addWay_0 : decode cX7_addWay 0 = .ok (.aload_n 0, 1) := by decide +kernel
theorem dX7_addWay_1 : decode cX7_addWay 1 = .ok (.getfield 31, 3) := by decide +kernel
theorem dX7_addWay_4 : decode cX7_addWay 4 = .ok (.aload_n 0, 1) := by decide +kernel
theorem dX7_addWay_5 : decode cX7_addWay 5 = .ok (.getfield 132, 3) := by decide +kernel
theorem dX7_addWay_8 : decode cX7_addWay 8 = .ok (.iload_n 1, 1) := by decide +kernel
theorem dX7_addWay_9 : decode cX7_addWay 9 = .ok (.iastore, 1) := by decide +kernel
theorem dX7_addWay_10 : decode cX7_addWay 10 = .ok (.aload_n 0, 1) := by decide +kernel
theorem dX7_addWay_11 : decode cX7_addWay 11 = .ok (.getfield 34, 3) := by decide +kernel
theorem dX7_addWay_14 : decode cX7_addWay 14 = .ok (.aload_n 0, 1) := by decide +kernel
theorem dX7_addWay_15 : decode cX7_addWay 15 = .ok (.getfield 132, 3) := by decide +kernel
theorem dX7_addWay_18 : decode cX7_addWay 18 = .ok (.iload_n 2, 1) := by decide +kernel
theorem dX7_addWay_19 : decode cX7_addWay 19 = .ok (.iastore, 1) := by decide +kernel
theorem dX7_addWay_20 : decode cX7_addWay 20 = .ok (.aload_n 0, 1) := by decide +kernel
theorem dX7_addWay_21 : decode cX7_addWay 21 = .ok (.getfield 37, 3) := by decide +kernel
theorem dX7_addWay_24 : decode cX7_addWay 24 = .ok (.aload_n 0, 1) := by decide +kernel
theorem dX7_addWay_25 : decode cX7_addWay 25 = .ok (.getfield 132, 3) := by decide +kernel
theorem dX7_addWay_28 : decode cX7_addWay 28 = .ok (.iload_n 3, 1) := by decide +kernel
theorem dX7_addWay_29 : decode cX7_addWay 29 = .ok (.iastore, 1) := by decide +kernel
theorem dX7_addWay_30 : decode cX7_addWay 30 = .ok (.aload_n 0, 1) := by decide +kernel
theorem dX7_addWay_31 : decode cX7_addWay 31 = .ok (.getfield 40, 3) := by decide +kernel
theorem dX7_addWay_34 : decode cX7_addWay 34 = .ok (.aload_n 0, 1) := by decide +kernel
theorem dX7_addWay_35 : decode cX7_addWay 35 = .ok (.getfield 132, 3) := by decide +kernel
theorem dX7_addWay_38 : decode cX7_addWay 38 = .ok (.iload 4, 2) := by decide +kernel
theorem dX7_addWay_40 : decode cX7_addWay 40 = .ok (.iastore, 1) := by decide +kernel
theorem dX7_addWay_41 : decode cX7_addWay 41 = .ok (.aload_n 0, 1) := by decide +kernel
theorem dX7_addWay_42 : decode cX7_addWay 42 = .ok (.getfield 43, 3) := by decide +kernel
theorem dX7_addWay_45 : decode cX7_addWay 45 = .ok (.aload_n 0, 1) := by decide +kernel
theorem dX7_addWay_46 : decode cX7_addWay 46 = .ok (.getfield 132, 3) := by decide +kernel
theorem dX7_addWay_49 : decode cX7_addWay 49 = .ok (.iload 5, 2) := by decide +kernel
theorem dX7_addWay_51 : decode cX7_addWay 51 = .ok (.iastore, 1) := by decide +kernel
theorem dX7_addWay_52 : decode cX7_addWay 52 = .ok (.aload_n 0, 1) := by decide +kernel
theorem dX7_addWay_53 : decode cX7_addWay 53 = .ok (.getfield 46, 3) := by decide +kernel
theorem dX7_addWay_56 : decode cX7_addWay 56 = .ok (.aload_n 0, 1) := by decide +kernel
theorem dX7_addWay_57 : decode cX7_addWay 57 = .ok (.getfield 132, 3) := by decide +kernel
theorem dX7_addWay_60 : decode cX7_addWay 60 = .ok (.iconst 0, 1) := by decide +kernel
theorem dX7_addWay_61 : decode cX7_addWay 61 = .ok (.bastore, 1) := by decide +kernel
theorem dX7_addWay_62 : decode cX7_addWay 62 = .ok (.aload_n 0, 1) := by decide +kernel
theorem dX7_addWay_63 : decode cX7_addWay 63 = .ok (.dup, 1) := by decide +kernel
theorem dX7_addWay_64 : decode cX7_addWay 64 = .ok (.getfield 132, 3) := by decide +kernel
theorem dX7_addWay_67 : decode cX7_addWay 67 = .ok (.iconst 1, 1) := by decide +kernel
theorem dX7_addWay_68 : decode cX7_addWay 68 = .ok (.iadd, 1) := by decide +kernel
theorem dX7_addWay_69 : decode cX7_addWay 69 = .ok (.putfield 132, 3) := by decide +kernel
theorem dX7_addWay_72 : decode cX7_addWay 72 = .ok (.return_, 1) := by decide +kernel
theorem dX7_areEnds_0 : decode cX7_areEnds 0 = .ok (.aload_n 0, 1) := by decide +kernel
theorem dX7_areEnds_1 : decode cX7_areEnds 1 = .ok (.iload_n 1, 1) := by decide +kernel
theorem dX7_areEnds_2 : decode cX7_areEnds 2 = .ok (.invokevirtual 126, 3) := by decide +kernel
theorem dX7_areEnds_5 : decode cX7_areEnds 5 = .ok (.ifCond .eq 26, 3) := by decide +kernel
theorem dX7_areEnds_8 : decode cX7_areEnds 8 = .ok (.iload_n 2, 1) := by decide +kernel
theorem dX7_areEnds_9 : decode cX7_areEnds 9 = .ok (.bipush 8, 2) := by decide +kernel
theorem dX7_areEnds_11 : decode cX7_areEnds 11 = .ok (.if_icmp .eq 11, 3) := by decide +kernel
theorem dX7_areEnds_14 : decode cX7_areEnds 14 = .ok (.aload_n 0, 1) := by decide +kernel
theorem dX7_areEnds_15 : decode cX7_areEnds 15 = .ok (.iload_n 2, 1) := by decide +kernel
theorem dX7_areEnds_16 : decode cX7_areEnds 16 = .ok (.invokevirtual 126, 3) := by decide +kernel
theorem dX7_areEnds_19 : decode cX7_areEnds 19 = .ok (.ifCond .eq 12, 3) := by decide +kernel
theorem dX7_areEnds_22 : decode cX7_areEnds 22 = .ok (.iload_n 1, 1) := by decide +kernel
theorem dX7_areEnds_23 : decode cX7_areEnds 23 = .ok (.iload_n 2, 1) := by decide +kernel
theorem dX7_areEnds_24 : decode cX7_areEnds 24 = .ok (.if_icmp .eq 7, 3) := by decide +kernel
theorem dX7_areEnds_27 : decode cX7_areEnds 27 = .ok (.iconst 1, 1) := by decide +kernel
theorem dX7_areEnds_28 : decode cX7_areEnds 28 = .ok (.goto 4, 3) := by decide +kernel
theorem dX7_areEnds_31 : decode cX7_areEnds 31 = .ok (.iconst 0, 1) := by decide +kernel
theorem dX7_areEnds_32 : decode cX7_areEnds 32 = .ok (.ireturn, 1) := by decide +kernel
theorem dX7_way_0 : decode cX7_way 0 = .ok (.aload_n 0, 1) := by decide +kernel
theorem dX7_way_1 : decode cX7_way 1 = .ok (.iload_n 1, 1) := by decide +kernel
theorem dX7_way_2 : decode cX7_way 2 = .ok (.iload_n 2, 1) := by decide +kernel
theorem dX7_way_3 : decode cX7_way 3 = .ok (.invokevirtual 135, 3) := by decide +kernel
theorem dX7_way_6 : decode cX7_way 6 = .ok (.ifCond .eq 25, 3) := by decide +kernel
theorem dX7_way_9 : decode cX7_way 9 = .ok (.iload_n 3, 1) := by decide +kernel
theorem dX7_way_10 : decode cX7_way 10 = .ok (.ifCond .eq 27, 3) := by decide +kernel
theorem dX7_way_13 : decode cX7_way 13 = .ok (.iload_n 3, 1) := by decide +kernel
theorem dX7_way_14 : decode cX7_way 14 = .ok (.bipush 10, 2) := by decide +kernel
theorem dX7_way_16 : decode cX7_way 16 = .ok (.if_icmp .eq 21, 3) := by decide +kernel
theorem dX7_way_19 : decode cX7_way 19 = .ok (.iload_n 3, 1) := by decide +kernel
theorem dX7_way_20 : decode cX7_way 20 = .ok (.bipush 100, 2) := by decide +kernel
theorem dX7_way_22 : decode cX7_way 22 = .ok (.if_icmp .eq 15, 3) := by decide +kernel
theorem dX7_way_25 : decode cX7_way 25 = .ok (.iload_n 3, 1) := by decide +kernel
theorem dX7_way_26 : decode cX7_way 26 = .ok (.bipush 110, 2) := by decide +kernel
theorem dX7_way_28 : decode cX7_way 28 = .ok (.if_icmp .eq 9, 3) := by decide +kernel
theorem dX7_way_31 : decode cX7_way 31 = .ok (.aload_n 0, 1) := by decide +kernel
theorem dX7_way_32 : decode cX7_way 32 = .ok (.iconst (-1), 1) := by decide +kernel
theorem dX7_way_33 : decode cX7_way 33 = .ok (.invokevirtual 118, 3) := by decide +kernel
theorem dX7_way_36 : decode cX7_way 36 = .ok (.ireturn, 1) := by decide +kernel
theorem dX7_way_37 : decode cX7_way 37 = .ok (.iload 4, 2) := by decide +kernel
theorem dX7_way_39 : decode cX7_way 39 = .ok (.iconst 1, 1) := by decide +kernel
theorem dX7_way_40 : decode cX7_way 40 = .ok (.if_icmp .ge 10, 3) := by decide +kernel
theorem dX7_way_43 : decode cX7_way 43 = .ok (.aload_n 0, 1) := by decide +kernel
theorem dX7_way_44 : decode cX7_way 44 = .ok (.bipush (-4), 2) := by decide +kernel
theorem dX7_way_46 : decode cX7_way 46 = .ok (.invokevirtual 118, 3) := by decide +kernel
theorem dX7_way_49 : decode cX7_way 49 = .ok (.ireturn, 1) := by decide +kernel
theorem dX7_way_50 : decode cX7_way 50 = .ok (.iload 4, 2) := by decide +kernel
theorem dX7_way_52 : decode cX7_way 52 = .ok (.bipush 100, 2) := by decide +kernel
theorem dX7_way_54 : decode cX7_way 54 = .ok (.if_icmp .gt 12, 3) := by decide +kernel
theorem dX7_way_57 : decode cX7_way 57 = .ok (.aload_n 0, 1) := by decide +kernel
theorem dX7_way_58 : decode cX7_way 58 = .ok (.getfield 132, 3) := by decide +kernel
theorem dX7_way_61 : decode cX7_way 61 = .ok (.bipush 24, 2) := by decide +kernel
theorem dX7_way_63 : decode cX7_way 63 = .ok (.if_icmp .ne 10, 3) := by decide +kernel
theorem dX7_way_66 : decode cX7_way 66 = .ok (.aload_n 0, 1) := by decide +kernel
theorem dX7_way_67 : decode cX7_way 67 = .ok (.bipush (-6), 2) := by decide +kernel
theorem dX7_way_69 : decode cX7_way 69 = .ok (.invokevirtual 118, 3) := by decide +kernel
theorem dX7_way_72 : decode cX7_way 72 = .ok (.ireturn, 1) := by decide +kernel
theorem dX7_way_73 : decode cX7_way 73 = .ok (.aload_n 0, 1) := by decide +kernel
theorem dX7_way_74 : decode cX7_way 74 = .ok (.iload_n 1, 1) := by decide +kernel
theorem dX7_way_75 : decode cX7_way 75 = .ok (.iload_n 3, 1) := by decide +kernel
theorem dX7_way_76 : decode cX7_way 76 = .ok (.bipush 100, 2) := by decide +kernel
theorem dX7_way_78 : decode cX7_way 78 = .ok (.idiv, 1) := by decide +kernel
theorem dX7_way_79 : decode cX7_way 79 = .ok (.iload_n 3, 1) := by decide +kernel
theorem dX7_way_80 : decode cX7_way 80 = .ok (.bipush 10, 2) := by decide +kernel
theorem dX7_way_82 : decode cX7_way 82 = .ok (.idiv, 1) := by decide +kernel
theorem dX7_way_83 : decode cX7_way 83 = .ok (.bipush 10, 2) := by decide +kernel
theorem dX7_way_85 : decode cX7_way 85 = .ok (.irem, 1) := by decide +kernel
theorem dX7_way_86 : decode cX7_way 86 = .ok (.invokevirtual 139, 3) := by decide +kernel
theorem dX7_way_89 : decode cX7_way 89 = .ok (.iload 4, 2) := by decide +kernel
theorem dX7_way_91 : decode cX7_way 91 = .ok (.iadd, 1) := by decide +kernel
theorem dX7_way_92 : decode cX7_way 92 = .ok (.bipush 100, 2) := by decide +kernel
theorem dX7_way_94 : decode cX7_way 94 = .ok (.if_icmp .le 10, 3) := by decide +kernel
theorem dX7_way_97 : decode cX7_way 97 = .ok (.aload_n 0, 1) := by decide +kernel
theorem dX7_way_98 : decode cX7_way 98 = .ok (.bipush (-3), 2) := by decide +kernel
theorem dX7_way_100 : decode cX7_way 100 = .ok (.invokevirtual 118, 3) := by decide +kernel
theorem dX7_way_103 : decode cX7_way 103 = .ok (.ireturn, 1) := by decide +kernel
theorem dX7_way_104 : decode cX7_way 104 = .ok (.aload_n 0, 1) := by decide +kernel
theorem dX7_way_105 : decode cX7_way 105 = .ok (.iload_n 1, 1) := by decide +kernel
theorem dX7_way_106 : decode cX7_way 106 = .ok (.iload_n 2, 1) := by decide +kernel
theorem dX7_way_107 : decode cX7_way 107 = .ok (.iload_n 3, 1) := by decide +kernel
theorem dX7_way_108 : decode cX7_way 108 = .ok (.bipush 100, 2) := by decide +kernel
theorem dX7_way_110 : decode cX7_way 110 = .ok (.idiv, 1) := by decide +kernel
theorem dX7_way_111 : decode cX7_way 111 = .ok (.iload_n 3, 1) := by decide +kernel
theorem dX7_way_112 : decode cX7_way 112 = .ok (.bipush 10, 2) := by decide +kernel
theorem dX7_way_114 : decode cX7_way 114 = .ok (.idiv, 1) := by decide +kernel
theorem dX7_way_115 : decode cX7_way 115 = .ok (.bipush 10, 2) := by decide +kernel
theorem dX7_way_117 : decode cX7_way 117 = .ok (.irem, 1) := by decide +kernel
theorem dX7_way_118 : decode cX7_way 118 = .ok (.iload 4, 2) := by decide +kernel
theorem dX7_way_120 : decode cX7_way 120 = .ok (.invokevirtual 143, 3) := by decide +kernel
theorem dX7_way_123 : decode cX7_way 123 = .ok (.aload_n 0, 1) := by decide +kernel
theorem dX7_way_124 : decode cX7_way 124 = .ok (.getfield 132, 3) := by decide +kernel
theorem dX7_way_127 : decode cX7_way 127 = .ok (.iconst 1, 1) := by decide +kernel
theorem dX7_way_128 : decode cX7_way 128 = .ok (.isub, 1) := by decide +kernel
theorem dX7_way_129 : decode cX7_way 129 = .ok (.ireturn, 1) := by decide +kernel
theorem dX7_shut_0 : decode cX7_shut 0 = .ok (.iload_n 1, 1) := by decide +kernel
theorem dX7_shut_1 : decode cX7_shut 1 = .ok (.i2l, 1) := by decide +kernel
theorem dX7_shut_2 : decode cX7_shut 2 = .ok (.lconst 0, 1) := by decide +kernel
theorem dX7_shut_3 : decode cX7_shut 3 = .ok (.aload_n 0, 1) := by decide +kernel
theorem dX7_shut_4 : decode cX7_shut 4 = .ok (.getfield 132, 3) := by decide +kernel
theorem dX7_shut_7 : decode cX7_shut 7 = .ok (.iconst 1, 1) := by decide +kernel
theorem dX7_shut_8 : decode cX7_shut 8 = .ok (.isub, 1) := by decide +kernel
theorem dX7_shut_9 : decode cX7_shut 9 = .ok (.i2l, 1) := by decide +kernel
theorem dX7_shut_10 : decode cX7_shut 10 = .ok (.invokestatic 114, 3) := by decide +kernel
theorem dX7_shut_13 : decode cX7_shut 13 = .ok (.ifCond .ne 9, 3) := by decide +kernel
theorem dX7_shut_16 : decode cX7_shut 16 = .ok (.aload_n 0, 1) := by decide +kernel
theorem dX7_shut_17 : decode cX7_shut 17 = .ok (.iconst (-1), 1) := by decide +kernel
theorem dX7_shut_18 : decode cX7_shut 18 = .ok (.invokevirtual 118, 3) := by decide +kernel
theorem dX7_shut_21 : decode cX7_shut 21 = .ok (.ireturn, 1) := by decide +kernel
theorem dX7_shut_22 : decode cX7_shut 22 = .ok (.aload_n 0, 1) := by decide +kernel
theorem dX7_shut_23 : decode cX7_shut 23 = .ok (.getfield 46, 3) := by decide +kernel
theorem dX7_shut_26 : decode cX7_shut 26 = .ok (.iload_n 1, 1) := by decide +kernel
theorem dX7_shut_27 : decode cX7_shut 27 = .ok (.baload, 1) := by decide +kernel
theorem dX7_shut_28 : decode cX7_shut 28 = .ok (.istore_n 3, 1) := by decide +kernel
theorem dX7_shut_29 : decode cX7_shut 29 = .ok (.aload_n 0, 1) := by decide +kernel
theorem dX7_shut_30 : decode cX7_shut 30 = .ok (.getfield 46, 3) := by decide +kernel
theorem dX7_shut_33 : decode cX7_shut 33 = .ok (.iload_n 1, 1) := by decide +kernel
theorem dX7_shut_34 : decode cX7_shut 34 = .ok (.iload_n 2, 1) := by decide +kernel
theorem dX7_shut_35 : decode cX7_shut 35 = .ok (.bastore, 1) := by decide +kernel
theorem dX7_shut_36 : decode cX7_shut 36 = .ok (.iload_n 3, 1) := by decide +kernel
theorem dX7_shut_37 : decode cX7_shut 37 = .ok (.iload_n 2, 1) := by decide +kernel
theorem dX7_shut_38 : decode cX7_shut 38 = .ok (.if_icmp .ne 7, 3) := by decide +kernel
theorem dX7_shut_41 : decode cX7_shut 41 = .ok (.iconst 0, 1) := by decide +kernel
theorem dX7_shut_42 : decode cX7_shut 42 = .ok (.goto 4, 3) := by decide +kernel
theorem dX7_shut_45 : decode cX7_shut 45 = .ok (.iconst 1, 1) := by decide +kernel
theorem dX7_shut_46 : decode cX7_shut 46 = .ok (.ireturn, 1) := by decide +kernel
theorem dX7_addRiver_0 : decode cX7_addRiver 0 = .ok (.aload_n 0, 1) := by decide +kernel
theorem dX7_addRiver_1 : decode cX7_addRiver 1 = .ok (.getfield 50, 3) := by decide +kernel
theorem dX7_addRiver_4 : decode cX7_addRiver 4 = .ok (.aload_n 0, 1) := by decide +kernel
theorem dX7_addRiver_5 : decode cX7_addRiver 5 = .ok (.getfield 147, 3) := by decide +kernel
theorem dX7_addRiver_8 : decode cX7_addRiver 8 = .ok (.iload_n 1, 1) := by decide +kernel
theorem dX7_addRiver_9 : decode cX7_addRiver 9 = .ok (.iastore, 1) := by decide +kernel
theorem dX7_addRiver_10 : decode cX7_addRiver 10 = .ok (.aload_n 0, 1) := by decide +kernel
theorem dX7_addRiver_11 : decode cX7_addRiver 11 = .ok (.getfield 53, 3) := by decide +kernel
theorem dX7_addRiver_14 : decode cX7_addRiver 14 = .ok (.aload_n 0, 1) := by decide +kernel
theorem dX7_addRiver_15 : decode cX7_addRiver 15 = .ok (.getfield 147, 3) := by decide +kernel
theorem dX7_addRiver_18 : decode cX7_addRiver 18 = .ok (.iload_n 2, 1) := by decide +kernel
theorem dX7_addRiver_19 : decode cX7_addRiver 19 = .ok (.iastore, 1) := by decide +kernel
theorem dX7_addRiver_20 : decode cX7_addRiver 20 = .ok (.aload_n 0, 1) := by decide +kernel
end
section
theorem dX7_addRiver_21 : decode cX7_addRiver 21 = .ok (.getfield 56, 3) := by decide +kernel
theorem dX7_addRiver_24 : decode cX7_addRiver 24 = .ok (.aload_n 0, 1) := by decide +kernel
theorem dX7_addRiver_25 : decode cX7_addRiver 25 = .ok (.getfield 147, 3) := by decide +kernel
theorem dX7_addRiver_28 : decode cX7_addRiver 28 = .ok (.iload_n 3, 1) := by decide +kernel
theorem dX7_addRiver_29 : decode cX7_addRiver 29 = .ok (.iastore, 1) := by decide +kernel
theorem dX7_addRiver_30 : decode cX7_addRiver 30 = .ok (.aload_n 0, 1) := by decide +kernel
theorem dX7_addRiver_31 : decode cX7_addRiver 31 = .ok (.dup, 1) := by decide +kernel
theorem dX7_addRiver_32 : decode cX7_addRiver 32 = .ok (.getfield 147, 3) := by decide +kernel
theorem dX7_addRiver_35 : decode cX7_addRiver 35 = .ok (.iconst 1, 1) := by decide +kernel
theorem dX7_addRiver_36 : decode cX7_addRiver 36 = .ok (.iadd, 1) := by decide +kernel
theorem dX7_addRiver_37 : decode cX7_addRiver 37 = .ok (.putfield 147, 3) := by decide +kernel
theorem dX7_addRiver_40 : decode cX7_addRiver 40 = .ok (.return_, 1) := by decide +kernel
theorem dX7_river_0 : decode cX7_river 0 = .ok (.aload_n 0, 1) := by decide +kernel
theorem dX7_river_1 : decode cX7_river 1 = .ok (.iload_n 1, 1) := by decide +kernel
theorem dX7_river_2 : decode cX7_river 2 = .ok (.invokevirtual 126, 3) := by decide +kernel
theorem dX7_river_5 : decode cX7_river 5 = .ok (.ifCond .eq 10, 3) := by decide +kernel
theorem dX7_river_8 : decode cX7_river 8 = .ok (.iload_n 2, 1) := by decide +kernel
theorem dX7_river_9 : decode cX7_river 9 = .ok (.invokestatic 150, 3) := by decide +kernel
theorem dX7_river_12 : decode cX7_river 12 = .ok (.ifCond .ne 9, 3) := by decide +kernel
theorem dX7_river_15 : decode cX7_river 15 = .ok (.aload_n 0, 1) := by decide +kernel
theorem dX7_river_16 : decode cX7_river 16 = .ok (.iconst (-1), 1) := by decide +kernel
theorem dX7_river_17 : decode cX7_river 17 = .ok (.invokevirtual 118, 3) := by decide +kernel
theorem dX7_river_20 : decode cX7_river 20 = .ok (.ireturn, 1) := by decide +kernel
theorem dX7_river_21 : decode cX7_river 21 = .ok (.iload_n 3, 1) := by decide +kernel
theorem dX7_river_22 : decode cX7_river 22 = .ok (.iconst 1, 1) := by decide +kernel
theorem dX7_river_23 : decode cX7_river 23 = .ok (.if_icmp .ge 10, 3) := by decide +kernel
theorem dX7_river_26 : decode cX7_river 26 = .ok (.aload_n 0, 1) := by decide +kernel
theorem dX7_river_27 : decode cX7_river 27 = .ok (.bipush (-4), 2) := by decide +kernel
theorem dX7_river_29 : decode cX7_river 29 = .ok (.invokevirtual 118, 3) := by decide +kernel
theorem dX7_river_32 : decode cX7_river 32 = .ok (.ireturn, 1) := by decide +kernel
theorem dX7_river_33 : decode cX7_river 33 = .ok (.iload_n 3, 1) := by decide +kernel
theorem dX7_river_34 : decode cX7_river 34 = .ok (.sipush 999, 3) := by decide +kernel
theorem dX7_river_37 : decode cX7_river 37 = .ok (.if_icmp .gt 12, 3) := by decide +kernel
theorem dX7_river_40 : decode cX7_river 40 = .ok (.aload_n 0, 1) := by decide +kernel
theorem dX7_river_41 : decode cX7_river 41 = .ok (.getfield 147, 3) := by decide +kernel
theorem dX7_river_44 : decode cX7_river 44 = .ok (.bipush 8, 2) := by decide +kernel
theorem dX7_river_46 : decode cX7_river 46 = .ok (.if_icmp .ne 10, 3) := by decide +kernel
theorem dX7_river_49 : decode cX7_river 49 = .ok (.aload_n 0, 1) := by decide +kernel
theorem dX7_river_50 : decode cX7_river 50 = .ok (.bipush (-6), 2) := by decide +kernel
theorem dX7_river_52 : decode cX7_river 52 = .ok (.invokevirtual 118, 3) := by decide +kernel
theorem dX7_river_55 : decode cX7_river 55 = .ok (.ireturn, 1) := by decide +kernel
theorem dX7_river_56 : decode cX7_river 56 = .ok (.aload_n 0, 1) := by decide +kernel
theorem dX7_river_57 : decode cX7_river 57 = .ok (.iload_n 1, 1) := by decide +kernel
theorem dX7_river_58 : decode cX7_river 58 = .ok (.iload_n 2, 1) := by decide +kernel
theorem dX7_river_59 : decode cX7_river 59 = .ok (.iload_n 3, 1) := by decide +kernel
theorem dX7_river_60 : decode cX7_river 60 = .ok (.invokevirtual 153, 3) := by decide +kernel
theorem dX7_river_63 : decode cX7_river 63 = .ok (.aload_n 0, 1) := by decide +kernel
theorem dX7_river_64 : decode cX7_river 64 = .ok (.getfield 147, 3) := by decide +kernel
theorem dX7_river_67 : decode cX7_river 67 = .ok (.iconst 1, 1) := by decide +kernel
theorem dX7_river_68 : decode cX7_river 68 = .ok (.isub, 1) := by decide +kernel
theorem dX7_river_69 : decode cX7_river 69 = .ok (.ireturn, 1) := by decide +kernel
theorem dX7_moon_0 : decode cX7_moon 0 = .ok (.iload_n 1, 1) := by decide +kernel
theorem dX7_moon_1 : decode cX7_moon 1 = .ok (.iconst 1, 1) := by decide +kernel
theorem dX7_moon_2 : decode cX7_moon 2 = .ok (.if_icmp .ge 10, 3) := by decide +kernel
theorem dX7_moon_5 : decode cX7_moon 5 = .ok (.aload_n 0, 1) := by decide +kernel
theorem dX7_moon_6 : decode cX7_moon 6 = .ok (.bipush (-4), 2) := by decide +kernel
theorem dX7_moon_8 : decode cX7_moon 8 = .ok (.invokevirtual 118, 3) := by decide +kernel
theorem dX7_moon_11 : decode cX7_moon 11 = .ok (.ireturn, 1) := by decide +kernel
theorem dX7_moon_12 : decode cX7_moon 12 = .ok (.iload_n 1, 1) := by decide +kernel
theorem dX7_moon_13 : decode cX7_moon 13 = .ok (.bipush 28, 2) := by decide +kernel
theorem dX7_moon_15 : decode cX7_moon 15 = .ok (.if_icmp .le 10, 3) := by decide +kernel
theorem dX7_moon_18 : decode cX7_moon 18 = .ok (.aload_n 0, 1) := by decide +kernel
theorem dX7_moon_19 : decode cX7_moon 19 = .ok (.bipush (-6), 2) := by decide +kernel
theorem dX7_moon_21 : decode cX7_moon 21 = .ok (.invokevirtual 118, 3) := by decide +kernel
theorem dX7_moon_24 : decode cX7_moon 24 = .ok (.ireturn, 1) := by decide +kernel
theorem dX7_moon_25 : decode cX7_moon 25 = .ok (.aload_n 0, 1) := by decide +kernel
theorem dX7_moon_26 : decode cX7_moon 26 = .ok (.getfield 62, 3) := by decide +kernel
theorem dX7_moon_29 : decode cX7_moon 29 = .ok (.istore_n 3, 1) := by decide +kernel
theorem dX7_moon_30 : decode cX7_moon 30 = .ok (.aload_n 0, 1) := by decide +kernel
theorem dX7_moon_31 : decode cX7_moon 31 = .ok (.iload_n 1, 1) := by decide +kernel
theorem dX7_moon_32 : decode cX7_moon 32 = .ok (.putfield 62, 3) := by decide +kernel
theorem dX7_moon_35 : decode cX7_moon 35 = .ok (.iconst 0, 1) := by decide +kernel
theorem dX7_moon_36 : decode cX7_moon 36 = .ok (.istore 4, 2) := by decide +kernel
theorem dX7_moon_38 : decode cX7_moon 38 = .ok (.iload 4, 2) := by decide +kernel
theorem dX7_moon_40 : decode cX7_moon 40 = .ok (.iload_n 1, 1) := by decide +kernel
theorem dX7_moon_41 : decode cX7_moon 41 = .ok (.if_icmp .ge 22, 3) := by decide +kernel
theorem dX7_moon_44 : decode cX7_moon 44 = .ok (.aload_n 0, 1) := by decide +kernel
theorem dX7_moon_45 : decode cX7_moon 45 = .ok (.getfield 59, 3) := by decide +kernel
theorem dX7_moon_48 : decode cX7_moon 48 = .ok (.iload 4, 2) := by decide +kernel
theorem dX7_moon_50 : decode cX7_moon 50 = .ok (.iload_n 2, 1) := by decide +kernel
theorem dX7_moon_51 : decode cX7_moon 51 = .ok (.iload 4, 2) := by decide +kernel
theorem dX7_moon_53 : decode cX7_moon 53 = .ok (.ishr, 1) := by decide +kernel
theorem dX7_moon_54 : decode cX7_moon 54 = .ok (.iconst 1, 1) := by decide +kernel
theorem dX7_moon_55 : decode cX7_moon 55 = .ok (.iand, 1) := by decide +kernel
theorem dX7_moon_56 : decode cX7_moon 56 = .ok (.iastore, 1) := by decide +kernel
theorem dX7_moon_57 : decode cX7_moon 57 = .ok (.iinc 4 1, 3) := by decide +kernel
theorem dX7_moon_60 : decode cX7_moon 60 = .ok (.goto (-22), 3) := by decide +kernel
theorem dX7_moon_63 : decode cX7_moon 63 = .ok (.iload_n 3, 1) := by decide +kernel
theorem dX7_moon_64 : decode cX7_moon 64 = .ok (.ireturn, 1) := by decide +kernel
theorem dX7_put_0 : decode cX7_put 0 = .ok (.aload_n 0, 1) := by decide +kernel
theorem dX7_put_1 : decode cX7_put 1 = .ok (.iload_n 1, 1) := by decide +kernel
theorem dX7_put_2 : decode cX7_put 2 = .ok (.invokevirtual 126, 3) := by decide +kernel
theorem dX7_put_5 : decode cX7_put 5 = .ok (.ifCond .eq 10, 3) := by decide +kernel
theorem dX7_put_8 : decode cX7_put 8 = .ok (.iload_n 2, 1) := by decide +kernel
theorem dX7_put_9 : decode cX7_put 9 = .ok (.invokestatic 150, 3) := by decide +kernel
theorem dX7_put_12 : decode cX7_put 12 = .ok (.ifCond .ne 9, 3) := by decide +kernel
theorem dX7_put_15 : decode cX7_put 15 = .ok (.aload_n 0, 1) := by decide +kernel
theorem dX7_put_16 : decode cX7_put 16 = .ok (.iconst (-1), 1) := by decide +kernel
theorem dX7_put_17 : decode cX7_put 17 = .ok (.invokevirtual 118, 3) := by decide +kernel
theorem dX7_put_20 : decode cX7_put 20 = .ok (.ireturn, 1) := by decide +kernel
theorem dX7_put_21 : decode cX7_put 21 = .ok (.iload 4, 2) := by decide +kernel
theorem dX7_put_23 : decode cX7_put 23 = .ok (.sipush (-9999), 3) := by decide +kernel
theorem dX7_put_26 : decode cX7_put 26 = .ok (.if_icmp .ge 10, 3) := by decide +kernel
theorem dX7_put_29 : decode cX7_put 29 = .ok (.aload_n 0, 1) := by decide +kernel
theorem dX7_put_30 : decode cX7_put 30 = .ok (.bipush (-4), 2) := by decide +kernel
theorem dX7_put_32 : decode cX7_put 32 = .ok (.invokevirtual 118, 3) := by decide +kernel
theorem dX7_put_35 : decode cX7_put 35 = .ok (.ireturn, 1) := by decide +kernel
theorem dX7_put_36 : decode cX7_put 36 = .ok (.iconst 2, 1) := by decide +kernel
theorem dX7_put_37 : decode cX7_put 37 = .ok (.iload_n 1, 1) := by decide +kernel
theorem dX7_put_38 : decode cX7_put 38 = .ok (.imul, 1) := by decide +kernel
theorem dX7_put_39 : decode cX7_put 39 = .ok (.iload_n 2, 1) := by decide +kernel
theorem dX7_put_40 : decode cX7_put 40 = .ok (.iadd, 1) := by decide +kernel
theorem dX7_put_41 : decode cX7_put 41 = .ok (.istore 5, 2) := by decide +kernel
theorem dX7_put_43 : decode cX7_put 43 = .ok (.iload_n 3, 1) := by decide +kernel
theorem dX7_put_44 : decode cX7_put 44 = .ok (.ifCond .eq 13, 3) := by decide +kernel
theorem dX7_put_47 : decode cX7_put 47 = .ok (.aload_n 0, 1) := by decide +kernel
theorem dX7_put_48 : decode cX7_put 48 = .ok (.getfield 25, 3) := by decide +kernel
theorem dX7_put_51 : decode cX7_put 51 = .ok (.iload 5, 2) := by decide +kernel
theorem dX7_put_53 : decode cX7_put 53 = .ok (.iaload, 1) := by decide +kernel
theorem dX7_put_54 : decode cX7_put 54 = .ok (.goto 10, 3) := by decide +kernel
theorem dX7_put_57 : decode cX7_put 57 = .ok (.aload_n 0, 1) := by decide +kernel
theorem dX7_put_58 : decode cX7_put 58 = .ok (.getfield 28, 3) := by decide +kernel
theorem dX7_put_61 : decode cX7_put 61 = .ok (.iload 5, 2) := by decide +kernel
theorem dX7_put_63 : decode cX7_put 63 = .ok (.iaload, 1) := by decide +kernel
theorem dX7_put_64 : decode cX7_put 64 = .ok (.iload 4, 2) := by decide +kernel
theorem dX7_put_66 : decode cX7_put 66 = .ok (.iadd, 1) := by decide +kernel
theorem dX7_put_67 : decode cX7_put 67 = .ok (.istore 6, 2) := by decide +kernel
theorem dX7_put_69 : decode cX7_put 69 = .ok (.iload 4, 2) := by decide +kernel
theorem dX7_put_71 : decode cX7_put 71 = .ok (.sipush 9999, 3) := by decide +kernel
theorem dX7_put_74 : decode cX7_put 74 = .ok (.if_icmp .gt 10, 3) := by decide +kernel
theorem dX7_put_77 : decode cX7_put 77 = .ok (.iload 6, 2) := by decide +kernel
theorem dX7_put_79 : decode cX7_put 79 = .ok (.ldc 157, 2) := by decide +kernel
theorem dX7_put_81 : decode cX7_put 81 = .ok (.if_icmp .le 10, 3) := by decide +kernel
theorem dX7_put_84 : decode cX7_put 84 = .ok (.aload_n 0, 1) := by decide +kernel
theorem dX7_put_85 : decode cX7_put 85 = .ok (.bipush (-6), 2) := by decide +kernel
theorem dX7_put_87 : decode cX7_put 87 = .ok (.invokevirtual 118, 3) := by decide +kernel
theorem dX7_put_90 : decode cX7_put 90 = .ok (.ireturn, 1) := by decide +kernel
theorem dX7_put_91 : decode cX7_put 91 = .ok (.iload 6, 2) := by decide +kernel
theorem dX7_put_93 : decode cX7_put 93 = .ok (.ifCond .ge 7, 3) := by decide +kernel
theorem dX7_put_96 : decode cX7_put 96 = .ok (.iconst 0, 1) := by decide +kernel
theorem dX7_put_97 : decode cX7_put 97 = .ok (.goto 5, 3) := by decide +kernel
theorem dX7_put_100 : decode cX7_put 100 = .ok (.iload 6, 2) := by decide +kernel
theorem dX7_put_102 : decode cX7_put 102 = .ok (.istore 6, 2) := by decide +kernel
theorem dX7_put_104 : decode cX7_put 104 = .ok (.aload_n 0, 1) := by decide +kernel
theorem dX7_put_105 : decode cX7_put 105 = .ok (.getfield 25, 3) := by decide +kernel
theorem dX7_put_108 : decode cX7_put 108 = .ok (.iload 5, 2) := by decide +kernel
theorem dX7_put_110 : decode cX7_put 110 = .ok (.iload_n 3, 1) := by decide +kernel
theorem dX7_put_111 : decode cX7_put 111 = .ok (.ifCond .eq 8, 3) := by decide +kernel
theorem dX7_put_114 : decode cX7_put 114 = .ok (.iload 6, 2) := by decide +kernel
theorem dX7_put_116 : decode cX7_put 116 = .ok (.goto 10, 3) := by decide +kernel
theorem dX7_put_119 : decode cX7_put 119 = .ok (.aload_n 0, 1) := by decide +kernel
theorem dX7_put_120 : decode cX7_put 120 = .ok (.getfield 25, 3) := by decide +kernel
theorem dX7_put_123 : decode cX7_put 123 = .ok (.iload 5, 2) := by decide +kernel
theorem dX7_put_125 : decode cX7_put 125 = .ok (.iaload, 1) := by decide +kernel
theorem dX7_put_126 : decode cX7_put 126 = .ok (.iastore, 1) := by decide +kernel
theorem dX7_put_127 : decode cX7_put 127 = .ok (.aload_n 0, 1) := by decide +kernel
theorem dX7_put_128 : decode cX7_put 128 = .ok (.getfield 28, 3) := by decide +kernel
theorem dX7_put_131 : decode cX7_put 131 = .ok (.iload 5, 2) := by decide +kernel
theorem dX7_put_133 : decode cX7_put 133 = .ok (.iload_n 3, 1) := by decide +kernel
theorem dX7_put_134 : decode cX7_put 134 = .ok (.ifCond .eq 13, 3) := by decide +kernel
theorem dX7_put_137 : decode cX7_put 137 = .ok (.aload_n 0, 1) := by decide +kernel
theorem dX7_put_138 : decode cX7_put 138 = .ok (.getfield 28, 3) := by decide +kernel
theorem dX7_put_141 : decode cX7_put 141 = .ok (.iload 5, 2) := by decide +kernel
theorem dX7_put_143 : decode cX7_put 143 = .ok (.iaload, 1) := by decide +kernel
theorem dX7_put_144 : decode cX7_put 144 = .ok (.goto 5, 3) := by decide +kernel
theorem dX7_put_147 : decode cX7_put 147 = .ok (.iload 6, 2) := by decide +kernel
theorem dX7_put_149 : decode cX7_put 149 = .ok (.iastore, 1) := by decide +kernel
theorem dX7_put_150 : decode cX7_put 150 = .ok (.iload 6, 2) := by decide +kernel
theorem dX7_put_152 : decode cX7_put 152 = .ok (.ireturn, 1) := by decide +kernel
theorem dX7_tons_0 : decode cX7_tons 0 = .ok (.aload_n 0, 1) := by decide +kernel
theorem dX7_tons_1 : decode cX7_tons 1 = .ok (.iload_n 1, 1) := by decide +kernel
theorem dX7_tons_2 : decode cX7_tons 2 = .ok (.invokevirtual 126, 3) := by decide +kernel
theorem dX7_tons_5 : decode cX7_tons 5 = .ok (.ifCond .eq 10, 3) := by decide +kernel
theorem dX7_tons_8 : decode cX7_tons 8 = .ok (.iload_n 2, 1) := by decide +kernel
theorem dX7_tons_9 : decode cX7_tons 9 = .ok (.invokestatic 150, 3) := by decide +kernel
theorem dX7_tons_12 : decode cX7_tons 12 = .ok (.ifCond .ne 11, 3) := by decide +kernel
theorem dX7_tons_15 : decode cX7_tons 15 = .ok (.aload_n 0, 1) := by decide +kernel
theorem dX7_tons_16 : decode cX7_tons 16 = .ok (.iconst (-1), 1) := by decide +kernel
theorem dX7_tons_17 : decode cX7_tons 17 = .ok (.invokevirtual 118, 3) := by decide +kernel
theorem dX7_tons_20 : decode cX7_tons 20 = .ok (.goto 30, 3) := by decide +kernel
theorem dX7_tons_23 : decode cX7_tons 23 = .ok (.iload_n 3, 1) := by decide +kernel
theorem dX7_tons_24 : decode cX7_tons 24 = .ok (.ifCond .eq 16, 3) := by decide +kernel
theorem dX7_tons_27 : decode cX7_tons 27 = .ok (.aload_n 0, 1) := by decide +kernel
theorem dX7_tons_28 : decode cX7_tons 28 = .ok (.getfield 25, 3) := by decide +kernel
theorem dX7_tons_31 : decode cX7_tons 31 = .ok (.iconst 2, 1) := by decide +kernel
theorem dX7_tons_32 : decode cX7_tons 32 = .ok (.iload_n 1, 1) := by decide +kernel
theorem dX7_tons_33 : decode cX7_tons 33 = .ok (.imul, 1) := by decide +kernel
theorem dX7_tons_34 : decode cX7_tons 34 = .ok (.iload_n 2, 1) := by decide +kernel
theorem dX7_tons_35 : decode cX7_tons 35 = .ok (.iadd, 1) := by decide +kernel
theorem dX7_tons_36 : decode cX7_tons 36 = .ok (.iaload, 1) := by decide +kernel
theorem dX7_tons_37 : decode cX7_tons 37 = .ok (.goto 13, 3) := by decide +kernel
theorem dX7_tons_40 : decode cX7_tons 40 = .ok (.aload_n 0, 1) := by decide +kernel
theorem dX7_tons_41 : decode cX7_tons 41 = .ok (.getfield 28, 3) := by decide +kernel
theorem dX7_tons_44 : decode cX7_tons 44 = .ok (.iconst 2, 1) := by decide +kernel
theorem dX7_tons_45 : decode cX7_tons 45 = .ok (.iload_n 1, 1) := by decide +kernel
theorem dX7_tons_46 : decode cX7_tons 46 = .ok (.imul, 1) := by decide +kernel
theorem dX7_tons_47 : decode cX7_tons 47 = .ok (.iload_n 2, 1) := by decide +kernel
theorem dX7_tons_48 : decode cX7_tons 48 = .ok (.iadd, 1) := by decide +kernel
theorem dX7_tons_49 : decode cX7_tons 49 = .ok (.iaload, 1) := by decide +kernel
theorem dX7_tons_50 : decode cX7_tons 50 = .ok (.ireturn, 1) := by decide +kernel
theorem dX7_settledIn_0 : decode cX7_settledIn 0 = .ok (.aload_n 0, 1) := by decide +kernel
theorem dX7_settledIn_1 : decode cX7_settledIn 1 = .ok (.getfield 28, 3) := by decide +kernel
theorem dX7_settledIn_4 : decode cX7_settledIn 4 = .ok (.iconst 2, 1) := by decide +kernel
theorem dX7_settledIn_5 : decode cX7_settledIn 5 = .ok (.iload_n 1, 1) := by decide +kernel
theorem dX7_settledIn_6 : decode cX7_settledIn 6 = .ok (.imul, 1) := by decide +kernel
theorem dX7_settledIn_7 : decode cX7_settledIn 7 = .ok (.iaload, 1) := by decide +kernel
theorem dX7_settledIn_8 : decode cX7_settledIn 8 = .ok (.aload_n 0, 1) := by decide +kernel
theorem dX7_settledIn_9 : decode cX7_settledIn 9 = .ok (.getfield 28, 3) := by decide +kernel
theorem dX7_settledIn_12 : decode cX7_settledIn 12 = .ok (.iconst 2, 1) := by decide +kernel
theorem dX7_settledIn_13 : decode cX7_settledIn 13 = .ok (.iload_n 1, 1) := by decide +kernel
theorem dX7_settledIn_14 : decode cX7_settledIn 14 = .ok (.imul, 1) := by decide +kernel
theorem dX7_settledIn_15 : decode cX7_settledIn 15 = .ok (.iconst 1, 1) := by decide +kernel
theorem dX7_settledIn_16 : decode cX7_settledIn 16 = .ok (.iadd, 1) := by decide +kernel
theorem dX7_settledIn_17 : decode cX7_settledIn 17 = .ok (.iaload, 1) := by decide +kernel
theorem dX7_settledIn_18 : decode cX7_settledIn 18 = .ok (.iadd, 1) := by decide +kernel
theorem dX7_settledIn_19 : decode cX7_settledIn 19 = .ok (.ireturn, 1) := by decide +kernel
theorem dX7_depthOf_0 : decode cX7_depthOf 0 = .ok (.aload_n 0, 1) := by decide +kernel
theorem dX7_depthOf_1 : decode cX7_depthOf 1 = .ok (.getfield 7, 3) := by decide +kernel
theorem dX7_depthOf_4 : decode cX7_depthOf 4 = .ok (.iload_n 1, 1) := by decide +kernel
theorem dX7_depthOf_5 : decode cX7_depthOf 5 = .ok (.iaload, 1) := by decide +kernel
theorem dX7_depthOf_6 : decode cX7_depthOf 6 = .ok (.aload_n 0, 1) := by decide +kernel
theorem dX7_depthOf_7 : decode cX7_depthOf 7 = .ok (.iload_n 1, 1) := by decide +kernel
theorem dX7_depthOf_8 : decode cX7_depthOf 8 = .ok (.invokevirtual 158, 3) := by decide +kernel
theorem dX7_depthOf_11 : decode cX7_depthOf 11 = .ok (.bipush 100, 2) := by decide +kernel
theorem dX7_depthOf_13 : decode cX7_depthOf 13 = .ok (.idiv, 1) := by decide +kernel
theorem dX7_depthOf_14 : decode cX7_depthOf 14 = .ok (.isub, 1) := by decide +kernel
theorem dX7_depthOf_15 : decode cX7_depthOf 15 = .ok (.istore_n 2, 1) := by decide +kernel
theorem dX7_depthOf_16 : decode cX7_depthOf 16 = .ok (.iload_n 2, 1) := by decide +kernel
theorem dX7_depthOf_17 : decode cX7_depthOf 17 = .ok (.ifCond .ge 7, 3) := by decide +kernel
theorem dX7_depthOf_20 : decode cX7_depthOf 20 = .ok (.iconst 0, 1) := by decide +kernel
theorem dX7_depthOf_21 : decode cX7_depthOf 21 = .ok (.goto 4, 3) := by decide +kernel
theorem dX7_depthOf_24 : decode cX7_depthOf 24 = .ok (.iload_n 2, 1) := by decide +kernel
theorem dX7_depthOf_25 : decode cX7_depthOf 25 = .ok (.ireturn, 1) := by decide +kernel
theorem dX7_lacksOf_0 : decode cX7_lacksOf 0 = .ok (.aload_n 0, 1) := by decide +kernel
theorem dX7_lacksOf_1 : decode cX7_lacksOf 1 = .ok (.getfield 13, 3) := by decide +kernel
theorem dX7_lacksOf_4 : decode cX7_lacksOf 4 = .ok (.iload_n 1, 1) := by decide +kernel
theorem dX7_lacksOf_5 : decode cX7_lacksOf 5 = .ok (.iaload, 1) := by decide +kernel
theorem dX7_lacksOf_6 : decode cX7_lacksOf 6 = .ok (.aload_n 0, 1) := by decide +kernel
theorem dX7_lacksOf_7 : decode cX7_lacksOf 7 = .ok (.iload_n 1, 1) := by decide +kernel
theorem dX7_lacksOf_8 : decode cX7_lacksOf 8 = .ok (.invokevirtual 161, 3) := by decide +kernel
theorem dX7_lacksOf_11 : decode cX7_lacksOf 11 = .ok (.isub, 1) := by decide +kernel
theorem dX7_lacksOf_12 : decode cX7_lacksOf 12 = .ok (.ireturn, 1) := by decide +kernel
theorem dX7_depth_0 : decode cX7_depth 0 = .ok (.aload_n 0, 1) := by decide +kernel
theorem dX7_depth_1 : decode cX7_depth 1 = .ok (.iload_n 1, 1) := by decide +kernel
theorem dX7_depth_2 : decode cX7_depth 2 = .ok (.invokevirtual 126, 3) := by decide +kernel
theorem dX7_depth_5 : decode cX7_depth 5 = .ok (.ifCond .eq 11, 3) := by decide +kernel
theorem dX7_depth_8 : decode cX7_depth 8 = .ok (.aload_n 0, 1) := by decide +kernel
theorem dX7_depth_9 : decode cX7_depth 9 = .ok (.iload_n 1, 1) := by decide +kernel
theorem dX7_depth_10 : decode cX7_depth 10 = .ok (.invokevirtual 161, 3) := by decide +kernel
theorem dX7_depth_13 : decode cX7_depth 13 = .ok (.goto 8, 3) := by decide +kernel
theorem dX7_depth_16 : decode cX7_depth 16 = .ok (.aload_n 0, 1) := by decide +kernel
theorem dX7_depth_17 : decode cX7_depth 17 = .ok (.iconst (-1), 1) := by decide +kernel
theorem dX7_depth_18 : decode cX7_depth 18 = .ok (.invokevirtual 118, 3) := by decide +kernel
theorem dX7_depth_21 : decode cX7_depth 21 = .ok (.ireturn, 1) := by decide +kernel
theorem dX7_lacks_0 : decode cX7_lacks 0 = .ok (.aload_n 0, 1) := by decide +kernel
theorem dX7_lacks_1 : decode cX7_lacks 1 = .ok (.iload_n 1, 1) := by decide +kernel
theorem dX7_lacks_2 : decode cX7_lacks 2 = .ok (.invokevirtual 126, 3) := by decide +kernel
theorem dX7_lacks_5 : decode cX7_lacks 5 = .ok (.ifCond .eq 11, 3) := by decide +kernel
theorem dX7_lacks_8 : decode cX7_lacks 8 = .ok (.aload_n 0, 1) := by decide +kernel
theorem dX7_lacks_9 : decode cX7_lacks 9 = .ok (.iload_n 1, 1) := by decide +kernel
theorem dX7_lacks_10 : decode cX7_lacks 10 = .ok (.invokevirtual 164, 3) := by decide +kernel
theorem dX7_lacks_13 : decode cX7_lacks 13 = .ok (.goto 11, 3) := by decide +kernel
theorem dX7_lacks_16 : decode cX7_lacks 16 = .ok (.ldc 167, 2) := by decide +kernel
theorem dX7_lacks_18 : decode cX7_lacks 18 = .ok (.aload_n 0, 1) := by decide +kernel
theorem dX7_lacks_19 : decode cX7_lacks 19 = .ok (.iconst (-1), 1) := by decide +kernel
theorem dX7_lacks_20 : decode cX7_lacks 20 = .ok (.invokevirtual 118, 3) := by decide +kernel
theorem dX7_lacks_23 : decode cX7_lacks 23 = .ok (.iadd, 1) := by decide +kernel
theorem dX7_lacks_24 : decode cX7_lacks 24 = .ok (.ireturn, 1) := by decide +kernel
theorem dX7_dredger_0 : decode cX7_dredger 0 = .ok (.iload_n 1, 1) := by decide +kernel
theorem dX7_dredger_1 : decode cX7_dredger 1 = .ok (.i2l, 1) := by decide +kernel
theorem dX7_dredger_2 : decode cX7_dredger 2 = .ok (.lconst 0, 1) := by decide +kernel
theorem dX7_dredger_3 : decode cX7_dredger 3 = .ok (.ldc2_w 168, 3) := by decide +kernel
theorem dX7_dredger_6 : decode cX7_dredger 6 = .ok (.invokestatic 114, 3) := by decide +kernel
theorem dX7_dredger_9 : decode cX7_dredger 9 = .ok (.ifCond .ne 10, 3) := by decide +kernel
theorem dX7_dredger_12 : decode cX7_dredger 12 = .ok (.aload_n 0, 1) := by decide +kernel
theorem dX7_dredger_13 : decode cX7_dredger 13 = .ok (.bipush (-2), 2) := by decide +kernel
theorem dX7_dredger_15 : decode cX7_dredger 15 = .ok (.invokevirtual 118, 3) := by decide +kernel
theorem dX7_dredger_18 : decode cX7_dredger 18 = .ok (.ireturn, 1) := by decide +kernel
theorem dX7_dredger_19 : decode cX7_dredger 19 = .ok (.iload_n 1, 1) := by decide +kernel
theorem dX7_dredger_20 : decode cX7_dredger 20 = .ok (.iconst 1, 1) := by decide +kernel
theorem dX7_dredger_21 : decode cX7_dredger 21 = .ok (.if_icmp .ne 17, 3) := by decide +kernel
theorem dX7_dredger_24 : decode cX7_dredger 24 = .ok (.iload_n 2, 1) := by decide +kernel
theorem dX7_dredger_25 : decode cX7_dredger 25 = .ok (.bipush 8, 2) := by decide +kernel
theorem dX7_dredger_27 : decode cX7_dredger 27 = .ok (.if_icmp .eq 11, 3) := by decide +kernel
theorem dX7_dredger_30 : decode cX7_dredger 30 = .ok (.aload_n 0, 1) := by decide +kernel
theorem dX7_dredger_31 : decode cX7_dredger 31 = .ok (.iload_n 2, 1) := by decide +kernel
theorem dX7_dredger_32 : decode cX7_dredger 32 = .ok (.invokevirtual 126, 3) := by decide +kernel
theorem dX7_dredger_35 : decode cX7_dredger 35 = .ok (.ifCond .eq 16, 3) := by decide +kernel
theorem dX7_dredger_38 : decode cX7_dredger 38 = .ok (.iload_n 1, 1) := by decide +kernel
theorem dX7_dredger_39 : decode cX7_dredger 39 = .ok (.iconst 3, 1) := by decide +kernel
theorem dX7_dredger_40 : decode cX7_dredger 40 = .ok (.if_icmp .ne 17, 3) := by decide +kernel
theorem dX7_dredger_43 : decode cX7_dredger 43 = .ok (.aload_n 0, 1) := by decide +kernel
theorem dX7_dredger_44 : decode cX7_dredger 44 = .ok (.iload_n 2, 1) := by decide +kernel
theorem dX7_dredger_45 : decode cX7_dredger 45 = .ok (.invokevirtual 126, 3) := by decide +kernel
theorem dX7_dredger_48 : decode cX7_dredger 48 = .ok (.ifCond .ne 9, 3) := by decide +kernel
theorem dX7_dredger_51 : decode cX7_dredger 51 = .ok (.aload_n 0, 1) := by decide +kernel
theorem dX7_dredger_52 : decode cX7_dredger 52 = .ok (.iconst (-1), 1) := by decide +kernel
theorem dX7_dredger_53 : decode cX7_dredger 53 = .ok (.invokevirtual 118, 3) := by decide +kernel
theorem dX7_dredger_56 : decode cX7_dredger 56 = .ok (.ireturn, 1) := by decide +kernel
theorem dX7_dredger_57 : decode cX7_dredger 57 = .ok (.iload_n 2, 1) := by decide +kernel
theorem dX7_dredger_58 : decode cX7_dredger 58 = .ok (.ifCond .ge 10, 3) := by decide +kernel
theorem dX7_dredger_61 : decode cX7_dredger 61 = .ok (.aload_n 0, 1) := by decide +kernel
theorem dX7_dredger_62 : decode cX7_dredger 62 = .ok (.bipush (-4), 2) := by decide +kernel
theorem dX7_dredger_64 : decode cX7_dredger 64 = .ok (.invokevirtual 118, 3) := by decide +kernel
theorem dX7_dredger_67 : decode cX7_dredger 67 = .ok (.ireturn, 1) := by decide +kernel
theorem dX7_dredger_68 : decode cX7_dredger 68 = .ok (.iload_n 1, 1) := by decide +kernel
theorem dX7_dredger_69 : decode cX7_dredger 69 = .ok (.ifCond .ne 10, 3) := by decide +kernel
theorem dX7_dredger_72 : decode cX7_dredger 72 = .ok (.iload_n 2, 1) := by decide +kernel
theorem dX7_dredger_73 : decode cX7_dredger 73 = .ok (.sipush 999, 3) := by decide +kernel
theorem dX7_dredger_76 : decode cX7_dredger 76 = .ok (.if_icmp .gt 24, 3) := by decide +kernel
theorem dX7_dredger_79 : decode cX7_dredger 79 = .ok (.iload_n 1, 1) := by decide +kernel
theorem dX7_dredger_80 : decode cX7_dredger 80 = .ok (.iconst 2, 1) := by decide +kernel
theorem dX7_dredger_81 : decode cX7_dredger 81 = .ok (.if_icmp .ne 8, 3) := by decide +kernel
theorem dX7_dredger_84 : decode cX7_dredger 84 = .ok (.iload_n 2, 1) := by decide +kernel
theorem dX7_dredger_85 : decode cX7_dredger 85 = .ok (.iconst 4, 1) := by decide +kernel
theorem dX7_dredger_86 : decode cX7_dredger 86 = .ok (.if_icmp .gt 14, 3) := by decide +kernel
theorem dX7_dredger_89 : decode cX7_dredger 89 = .ok (.iload_n 1, 1) := by decide +kernel
theorem dX7_dredger_90 : decode cX7_dredger 90 = .ok (.iconst 4, 1) := by decide +kernel
theorem dX7_dredger_91 : decode cX7_dredger 91 = .ok (.if_icmp .ne 16, 3) := by decide +kernel
theorem dX7_dredger_94 : decode cX7_dredger 94 = .ok (.iload_n 2, 1) := by decide +kernel
theorem dX7_dredger_95 : decode cX7_dredger 95 = .ok (.bipush 99, 2) := by decide +kernel
theorem dX7_dredger_97 : decode cX7_dredger 97 = .ok (.if_icmp .le 10, 3) := by decide +kernel
theorem dX7_dredger_100 : decode cX7_dredger 100 = .ok (.aload_n 0, 1) := by decide +kernel
theorem dX7_dredger_101 : decode cX7_dredger 101 = .ok (.bipush (-6), 2) := by decide +kernel
theorem dX7_dredger_103 : decode cX7_dredger 103 = .ok (.invokevirtual 118, 3) := by decide +kernel
theorem dX7_dredger_106 : decode cX7_dredger 106 = .ok (.ireturn, 1) := by decide +kernel
theorem dX7_dredger_107 : decode cX7_dredger 107 = .ok (.iload_n 1, 1) := by decide +kernel
theorem dX7_dredger_108 : decode cX7_dredger 108 = .ok (.ifCond .ne 10, 3) := by decide +kernel
theorem dX7_dredger_111 : decode cX7_dredger 111 = .ok (.aload_n 0, 1) := by decide +kernel
theorem dX7_dredger_112 : decode cX7_dredger 112 = .ok (.getfield 170, 3) := by decide +kernel
theorem dX7_dredger_115 : decode cX7_dredger 115 = .ok (.goto 43, 3) := by decide +kernel
theorem dX7_dredger_118 : decode cX7_dredger 118 = .ok (.iload_n 1, 1) := by decide +kernel
theorem dX7_dredger_119 : decode cX7_dredger 119 = .ok (.iconst 1, 1) := by decide +kernel
theorem dX7_dredger_120 : decode cX7_dredger 120 = .ok (.if_icmp .ne 10, 3) := by decide +kernel
theorem dX7_dredger_123 : decode cX7_dredger 123 = .ok (.aload_n 0, 1) := by decide +kernel
theorem dX7_dredger_124 : decode cX7_dredger 124 = .ok (.getfield 66, 3) := by decide +kernel
theorem dX7_dredger_127 : decode cX7_dredger 127 = .ok (.goto 31, 3) := by decide +kernel
theorem dX7_dredger_130 : decode cX7_dredger 130 = .ok (.iload_n 1, 1) := by decide +kernel
theorem dX7_dredger_131 : decode cX7_dredger 131 = .ok (.iconst 2, 1) := by decide +kernel
theorem dX7_dredger_132 : decode cX7_dredger 132 = .ok (.if_icmp .ne 10, 3) := by decide +kernel
theorem dX7_dredger_135 : decode cX7_dredger 135 = .ok (.aload_n 0, 1) := by decide +kernel
theorem dX7_dredger_136 : decode cX7_dredger 136 = .ok (.getfield 173, 3) := by decide +kernel
theorem dX7_dredger_139 : decode cX7_dredger 139 = .ok (.goto 19, 3) := by decide +kernel
theorem dX7_dredger_142 : decode cX7_dredger 142 = .ok (.iload_n 1, 1) := by decide +kernel
theorem dX7_dredger_143 : decode cX7_dredger 143 = .ok (.iconst 3, 1) := by decide +kernel
theorem dX7_dredger_144 : decode cX7_dredger 144 = .ok (.if_icmp .ne 10, 3) := by decide +kernel
theorem dX7_dredger_147 : decode cX7_dredger 147 = .ok (.aload_n 0, 1) := by decide +kernel
theorem dX7_dredger_148 : decode cX7_dredger 148 = .ok (.getfield 176, 3) := by decide +kernel
theorem dX7_dredger_151 : decode cX7_dredger 151 = .ok (.goto 7, 3) := by decide +kernel
theorem dX7_dredger_154 : decode cX7_dredger 154 = .ok (.aload_n 0, 1) := by decide +kernel
theorem dX7_dredger_155 : decode cX7_dredger 155 = .ok (.getfield 69, 3) := by decide +kernel
theorem dX7_dredger_158 : decode cX7_dredger 158 = .ok (.istore_n 3, 1) := by decide +kernel
theorem dX7_dredger_159 : decode cX7_dredger 159 = .ok (.aload_n 0, 1) := by decide +kernel
theorem dX7_dredger_160 : decode cX7_dredger 160 = .ok (.iload_n 1, 1) := by decide +kernel
theorem dX7_dredger_161 : decode cX7_dredger 161 = .ok (.ifCond .ne 7, 3) := by decide +kernel
theorem dX7_dredger_164 : decode cX7_dredger 164 = .ok (.iload_n 2, 1) := by decide +kernel
theorem dX7_dredger_165 : decode cX7_dredger 165 = .ok (.goto 7, 3) := by decide +kernel
theorem dX7_dredger_168 : decode cX7_dredger 168 = .ok (.aload_n 0, 1) := by decide +kernel
theorem dX7_dredger_169 : decode cX7_dredger 169 = .ok (.getfield 170, 3) := by decide +kernel
theorem dX7_dredger_172 : decode cX7_dredger 172 = .ok (.putfield 170, 3) := by decide +kernel
theorem dX7_dredger_175 : decode cX7_dredger 175 = .ok (.aload_n 0, 1) := by decide +kernel
theorem dX7_dredger_176 : decode cX7_dredger 176 = .ok (.iload_n 1, 1) := by decide +kernel
theorem dX7_dredger_177 : decode cX7_dredger 177 = .ok (.iconst 1, 1) := by decide +kernel
theorem dX7_dredger_178 : decode cX7_dredger 178 = .ok (.if_icmp .ne 7, 3) := by decide +kernel
theorem dX7_dredger_181 : decode cX7_dredger 181 = .ok (.iload_n 2, 1) := by decide +kernel
theorem dX7_dredger_182 : decode cX7_dredger 182 = .ok (.goto 7, 3) := by decide +kernel
theorem dX7_dredger_185 : decode cX7_dredger 185 = .ok (.aload_n 0, 1) := by decide +kernel
theorem dX7_dredger_186 : decode cX7_dredger 186 = .ok (.getfield 66, 3) := by decide +kernel
theorem dX7_dredger_189 : decode cX7_dredger 189 = .ok (.putfield 66, 3) := by decide +kernel
theorem dX7_dredger_192 : decode cX7_dredger 192 = .ok (.aload_n 0, 1) := by decide +kernel
theorem dX7_dredger_193 : decode cX7_dredger 193 = .ok (.iload_n 1, 1) := by decide +kernel
theorem dX7_dredger_194 : decode cX7_dredger 194 = .ok (.iconst 2, 1) := by decide +kernel
theorem dX7_dredger_195 : decode cX7_dredger 195 = .ok (.if_icmp .ne 7, 3) := by decide +kernel
theorem dX7_dredger_198 : decode cX7_dredger 198 = .ok (.iload_n 2, 1) := by decide +kernel
theorem dX7_dredger_199 : decode cX7_dredger 199 = .ok (.goto 7, 3) := by decide +kernel
theorem dX7_dredger_202 : decode cX7_dredger 202 = .ok (.aload_n 0, 1) := by decide +kernel
theorem dX7_dredger_203 : decode cX7_dredger 203 = .ok (.getfield 173, 3) := by decide +kernel
theorem dX7_dredger_206 : decode cX7_dredger 206 = .ok (.putfield 173, 3) := by decide +kernel
theorem dX7_dredger_209 : decode cX7_dredger 209 = .ok (.aload_n 0, 1) := by decide +kernel
theorem dX7_dredger_210 : decode cX7_dredger 210 = .ok (.iload_n 1, 1) := by decide +kernel
theorem dX7_dredger_211 : decode cX7_dredger 211 = .ok (.iconst 3, 1) := by decide +kernel
theorem dX7_dredger_212 : decode cX7_dredger 212 = .ok (.if_icmp .ne 7, 3) := by decide +kernel
theorem dX7_dredger_215 : decode cX7_dredger 215 = .ok (.iload_n 2, 1) := by decide +kernel
theorem dX7_dredger_216 : decode cX7_dredger 216 = .ok (.goto 7, 3) := by decide +kernel
theorem dX7_dredger_219 : decode cX7_dredger 219 = .ok (.aload_n 0, 1) := by decide +kernel
theorem dX7_dredger_220 : decode cX7_dredger 220 = .ok (.getfield 176, 3) := by decide +kernel
theorem dX7_dredger_223 : decode cX7_dredger 223 = .ok (.putfield 176, 3) := by decide +kernel
theorem dX7_dredger_226 : decode cX7_dredger 226 = .ok (.aload_n 0, 1) := by decide +kernel
theorem dX7_dredger_227 : decode cX7_dredger 227 = .ok (.iload_n 1, 1) := by decide +kernel
theorem dX7_dredger_228 : decode cX7_dredger 228 = .ok (.iconst 4, 1) := by decide +kernel
theorem dX7_dredger_229 : decode cX7_dredger 229 = .ok (.if_icmp .ne 7, 3) := by decide +kernel
theorem dX7_dredger_232 : decode cX7_dredger 232 = .ok (.iload_n 2, 1) := by decide +kernel
theorem dX7_dredger_233 : decode cX7_dredger 233 = .ok (.goto 7, 3) := by decide +kernel
theorem dX7_dredger_236 : decode cX7_dredger 236 = .ok (.aload_n 0, 1) := by decide +kernel
theorem dX7_dredger_237 : decode cX7_dredger 237 = .ok (.getfield 69, 3) := by decide +kernel
theorem dX7_dredger_240 : decode cX7_dredger 240 = .ok (.putfield 69, 3) := by decide +kernel
theorem dX7_dredger_243 : decode cX7_dredger 243 = .ok (.iload_n 3, 1) := by decide +kernel
theorem dX7_dredger_244 : decode cX7_dredger 244 = .ok (.ireturn, 1) := by decide +kernel
theorem dX7_kindAt_0 : decode cX7_kindAt 0 = .ok (.aload_n 0, 1) := by decide +kernel
theorem dX7_kindAt_1 : decode cX7_kindAt 1 = .ok (.getfield 59, 3) := by decide +kernel
theorem dX7_kindAt_4 : decode cX7_kindAt 4 = .ok (.iload_n 1, 1) := by decide +kernel
theorem dX7_kindAt_5 : decode cX7_kindAt 5 = .ok (.aload_n 0, 1) := by decide +kernel
theorem dX7_kindAt_6 : decode cX7_kindAt 6 = .ok (.getfield 62, 3) := by decide +kernel
theorem dX7_kindAt_9 : decode cX7_kindAt 9 = .ok (.irem, 1) := by decide +kernel
theorem dX7_kindAt_10 : decode cX7_kindAt 10 = .ok (.iaload, 1) := by decide +kernel
theorem dX7_kindAt_11 : decode cX7_kindAt 11 = .ok (.ireturn, 1) := by decide +kernel
theorem dX7_lackingMost_0 : decode cX7_lackingMost 0 = .ok (.bipush (-9), 2) := by decide +kernel
theorem dX7_lackingMost_2 : decode cX7_lackingMost 2 = .ok (.istore_n 1, 1) := by decide +kernel
theorem dX7_lackingMost_3 : decode cX7_lackingMost 3 = .ok (.iconst 0, 1) := by decide +kernel
theorem dX7_lackingMost_4 : decode cX7_lackingMost 4 = .ok (.istore_n 2, 1) := by decide +kernel
theorem dX7_lackingMost_5 : decode cX7_lackingMost 5 = .ok (.iload_n 2, 1) := by decide +kernel
theorem dX7_lackingMost_6 : decode cX7_lackingMost 6 = .ok (.aload_n 0, 1) := by decide +kernel
theorem dX7_lackingMost_7 : decode cX7_lackingMost 7 = .ok (.getfield 111, 3) := by decide +kernel
theorem dX7_lackingMost_10 : decode cX7_lackingMost 10 = .ok (.if_icmp .ge 58, 3) := by decide +kernel
theorem dX7_lackingMost_13 : decode cX7_lackingMost 13 = .ok (.aload_n 0, 1) := by decide +kernel
theorem dX7_lackingMost_14 : decode cX7_lackingMost 14 = .ok (.iload_n 2, 1) := by decide +kernel
theorem dX7_lackingMost_15 : decode cX7_lackingMost 15 = .ok (.invokevirtual 164, 3) := by decide +kernel
theorem dX7_lackingMost_18 : decode cX7_lackingMost 18 = .ok (.ifCond .le 24, 3) := by decide +kernel
theorem dX7_lackingMost_21 : decode cX7_lackingMost 21 = .ok (.iload_n 1, 1) := by decide +kernel
theorem dX7_lackingMost_22 : decode cX7_lackingMost 22 = .ok (.ifCond .lt 16, 3) := by decide +kernel
theorem dX7_lackingMost_25 : decode cX7_lackingMost 25 = .ok (.aload_n 0, 1) := by decide +kernel
theorem dX7_lackingMost_26 : decode cX7_lackingMost 26 = .ok (.iload_n 2, 1) := by decide +kernel
theorem dX7_lackingMost_27 : decode cX7_lackingMost 27 = .ok (.invokevirtual 164, 3) := by decide +kernel
theorem dX7_lackingMost_30 : decode cX7_lackingMost 30 = .ok (.aload_n 0, 1) := by decide +kernel
theorem dX7_lackingMost_31 : decode cX7_lackingMost 31 = .ok (.iload_n 1, 1) := by decide +kernel
theorem dX7_lackingMost_32 : decode cX7_lackingMost 32 = .ok (.invokevirtual 164, 3) := by decide +kernel
theorem dX7_lackingMost_35 : decode cX7_lackingMost 35 = .ok (.if_icmp .le 7, 3) := by decide +kernel
theorem dX7_lackingMost_38 : decode cX7_lackingMost 38 = .ok (.iconst 1, 1) := by decide +kernel
theorem dX7_lackingMost_39 : decode cX7_lackingMost 39 = .ok (.goto 4, 3) := by decide +kernel
theorem dX7_lackingMost_42 : decode cX7_lackingMost 42 = .ok (.iconst 0, 1) := by decide +kernel
theorem dX7_lackingMost_43 : decode cX7_lackingMost 43 = .ok (.istore_n 3, 1) := by decide +kernel
theorem dX7_lackingMost_44 : decode cX7_lackingMost 44 = .ok (.iload_n 2, 1) := by decide +kernel
theorem dX7_lackingMost_45 : decode cX7_lackingMost 45 = .ok (.aload_n 0, 1) := by decide +kernel
theorem dX7_lackingMost_46 : decode cX7_lackingMost 46 = .ok (.getfield 66, 3) := by decide +kernel
theorem dX7_lackingMost_49 : decode cX7_lackingMost 49 = .ok (.if_icmp .eq 11, 3) := by decide +kernel
theorem dX7_lackingMost_52 : decode cX7_lackingMost 52 = .ok (.iload_n 3, 1) := by decide +kernel
theorem dX7_lackingMost_53 : decode cX7_lackingMost 53 = .ok (.ifCond .eq 7, 3) := by decide +kernel
theorem dX7_lackingMost_56 : decode cX7_lackingMost 56 = .ok (.iload_n 2, 1) := by decide +kernel
theorem dX7_lackingMost_57 : decode cX7_lackingMost 57 = .ok (.goto 4, 3) := by decide +kernel
theorem dX7_lackingMost_60 : decode cX7_lackingMost 60 = .ok (.iload_n 1, 1) := by decide +kernel
theorem dX7_lackingMost_61 : decode cX7_lackingMost 61 = .ok (.istore_n 1, 1) := by decide +kernel
theorem dX7_lackingMost_62 : decode cX7_lackingMost 62 = .ok (.iinc 2 1, 3) := by decide +kernel
theorem dX7_lackingMost_65 : decode cX7_lackingMost 65 = .ok (.goto (-60), 3) := by decide +kernel
theorem dX7_lackingMost_68 : decode cX7_lackingMost 68 = .ok (.iload_n 1, 1) := by decide +kernel
theorem dX7_lackingMost_69 : decode cX7_lackingMost 69 = .ok (.ireturn, 1) := by decide +kernel
theorem dX7_deepest_0 : decode cX7_deepest 0 = .ok (.bipush (-9), 2) := by decide +kernel
theorem dX7_deepest_2 : decode cX7_deepest 2 = .ok (.istore_n 1, 1) := by decide +kernel
theorem dX7_deepest_3 : decode cX7_deepest 3 = .ok (.iconst 0, 1) := by decide +kernel
theorem dX7_deepest_4 : decode cX7_deepest 4 = .ok (.istore_n 2, 1) := by decide +kernel
theorem dX7_deepest_5 : decode cX7_deepest 5 = .ok (.iload_n 2, 1) := by decide +kernel
theorem dX7_deepest_6 : decode cX7_deepest 6 = .ok (.aload_n 0, 1) := by decide +kernel
theorem dX7_deepest_7 : decode cX7_deepest 7 = .ok (.getfield 111, 3) := by decide +kernel
theorem dX7_deepest_10 : decode cX7_deepest 10 = .ok (.if_icmp .ge 60, 3) := by decide +kernel
theorem dX7_deepest_13 : decode cX7_deepest 13 = .ok (.aload_n 0, 1) := by decide +kernel
theorem dX7_deepest_14 : decode cX7_deepest 14 = .ok (.iload_n 2, 1) := by decide +kernel
theorem dX7_deepest_15 : decode cX7_deepest 15 = .ok (.invokevirtual 164, 3) := by decide +kernel
theorem dX7_deepest_18 : decode cX7_deepest 18 = .ok (.bipush (-2), 2) := by decide +kernel
theorem dX7_deepest_20 : decode cX7_deepest 20 = .ok (.if_icmp .le 24, 3) := by decide +kernel
theorem dX7_deepest_23 : decode cX7_deepest 23 = .ok (.iload_n 1, 1) := by decide +kernel
theorem dX7_deepest_24 : decode cX7_deepest 24 = .ok (.ifCond .lt 16, 3) := by decide +kernel
theorem dX7_deepest_27 : decode cX7_deepest 27 = .ok (.aload_n 0, 1) := by decide +kernel
theorem dX7_deepest_28 : decode cX7_deepest 28 = .ok (.iload_n 2, 1) := by decide +kernel
theorem dX7_deepest_29 : decode cX7_deepest 29 = .ok (.invokevirtual 158, 3) := by decide +kernel
theorem dX7_deepest_32 : decode cX7_deepest 32 = .ok (.aload_n 0, 1) := by decide +kernel
theorem dX7_deepest_33 : decode cX7_deepest 33 = .ok (.iload_n 1, 1) := by decide +kernel
theorem dX7_deepest_34 : decode cX7_deepest 34 = .ok (.invokevirtual 158, 3) := by decide +kernel
theorem dX7_deepest_37 : decode cX7_deepest 37 = .ok (.if_icmp .le 7, 3) := by decide +kernel
theorem dX7_deepest_40 : decode cX7_deepest 40 = .ok (.iconst 1, 1) := by decide +kernel
theorem dX7_deepest_41 : decode cX7_deepest 41 = .ok (.goto 4, 3) := by decide +kernel
theorem dX7_deepest_44 : decode cX7_deepest 44 = .ok (.iconst 0, 1) := by decide +kernel
theorem dX7_deepest_45 : decode cX7_deepest 45 = .ok (.istore_n 3, 1) := by decide +kernel
theorem dX7_deepest_46 : decode cX7_deepest 46 = .ok (.iload_n 2, 1) := by decide +kernel
theorem dX7_deepest_47 : decode cX7_deepest 47 = .ok (.aload_n 0, 1) := by decide +kernel
theorem dX7_deepest_48 : decode cX7_deepest 48 = .ok (.getfield 66, 3) := by decide +kernel
theorem dX7_deepest_51 : decode cX7_deepest 51 = .ok (.if_icmp .eq 11, 3) := by decide +kernel
theorem dX7_deepest_54 : decode cX7_deepest 54 = .ok (.iload_n 3, 1) := by decide +kernel
theorem dX7_deepest_55 : decode cX7_deepest 55 = .ok (.ifCond .eq 7, 3) := by decide +kernel
theorem dX7_deepest_58 : decode cX7_deepest 58 = .ok (.iload_n 2, 1) := by decide +kernel
theorem dX7_deepest_59 : decode cX7_deepest 59 = .ok (.goto 4, 3) := by decide +kernel
theorem dX7_deepest_62 : decode cX7_deepest 62 = .ok (.iload_n 1, 1) := by decide +kernel
theorem dX7_deepest_63 : decode cX7_deepest 63 = .ok (.istore_n 1, 1) := by decide +kernel
theorem dX7_deepest_64 : decode cX7_deepest 64 = .ok (.iinc 2 1, 3) := by decide +kernel
theorem dX7_deepest_67 : decode cX7_deepest 67 = .ok (.goto (-62), 3) := by decide +kernel
theorem dX7_deepest_70 : decode cX7_deepest 70 = .ok (.iload_n 1, 1) := by decide +kernel
theorem dX7_deepest_71 : decode cX7_deepest 71 = .ok (.ireturn, 1) := by decide +kernel
theorem dX7_chosen_0 : decode cX7_chosen 0 = .ok (.aload_n 0, 1) := by decide +kernel
theorem dX7_chosen_1 : decode cX7_chosen 1 = .ok (.getfield 176, 3) := by decide +kernel
theorem dX7_chosen_4 : decode cX7_chosen 4 = .ok (.aload_n 0, 1) := by decide +kernel
theorem dX7_chosen_5 : decode cX7_chosen 5 = .ok (.getfield 66, 3) := by decide +kernel
theorem dX7_chosen_8 : decode cX7_chosen 8 = .ok (.if_icmp .ne 8, 3) := by decide +kernel
theorem dX7_chosen_11 : decode cX7_chosen 11 = .ok (.bipush (-9), 2) := by decide +kernel
theorem dX7_chosen_13 : decode cX7_chosen 13 = .ok (.goto 7, 3) := by decide +kernel
theorem dX7_chosen_16 : decode cX7_chosen 16 = .ok (.aload_n 0, 1) := by decide +kernel
theorem dX7_chosen_17 : decode cX7_chosen 17 = .ok (.getfield 176, 3) := by decide +kernel
theorem dX7_chosen_20 : decode cX7_chosen 20 = .ok (.istore_n 2, 1) := by decide +kernel
theorem dX7_chosen_21 : decode cX7_chosen 21 = .ok (.aload_n 0, 1) := by decide +kernel
theorem dX7_chosen_22 : decode cX7_chosen 22 = .ok (.getfield 173, 3) := by decide +kernel
theorem dX7_chosen_25 : decode cX7_chosen 25 = .ok (.tableswitch 58 0 3 #[31, 36, 51, 53], 31) := by decide +kernel
theorem dX7_chosen_56 : decode cX7_chosen 56 = .ok (.aload_n 0, 1) := by decide +kernel
theorem dX7_chosen_57 : decode cX7_chosen 57 = .ok (.invokevirtual 179, 3) := by decide +kernel
theorem dX7_chosen_60 : decode cX7_chosen 60 = .ok (.ireturn, 1) := by decide +kernel
theorem dX7_chosen_61 : decode cX7_chosen 61 = .ok (.iload_n 1, 1) := by decide +kernel
theorem dX7_chosen_62 : decode cX7_chosen 62 = .ok (.iconst 1, 1) := by decide +kernel
theorem dX7_chosen_63 : decode cX7_chosen 63 = .ok (.if_icmp .ne 10, 3) := by decide +kernel
theorem dX7_chosen_66 : decode cX7_chosen 66 = .ok (.aload_n 0, 1) := by decide +kernel
theorem dX7_chosen_67 : decode cX7_chosen 67 = .ok (.invokevirtual 179, 3) := by decide +kernel
theorem dX7_chosen_70 : decode cX7_chosen 70 = .ok (.goto 5, 3) := by decide +kernel
theorem dX7_chosen_73 : decode cX7_chosen 73 = .ok (.bipush (-9), 2) := by decide +kernel
theorem dX7_chosen_75 : decode cX7_chosen 75 = .ok (.ireturn, 1) := by decide +kernel
theorem dX7_chosen_76 : decode cX7_chosen 76 = .ok (.iload_n 2, 1) := by decide +kernel
theorem dX7_chosen_77 : decode cX7_chosen 77 = .ok (.ireturn, 1) := by decide +kernel
theorem dX7_chosen_78 : decode cX7_chosen 78 = .ok (.aload_n 0, 1) := by decide +kernel
theorem dX7_chosen_79 : decode cX7_chosen 79 = .ok (.invokevirtual 183, 3) := by decide +kernel
theorem dX7_chosen_82 : decode cX7_chosen 82 = .ok (.ireturn, 1) := by decide +kernel
theorem dX7_chosen_83 : decode cX7_chosen 83 = .ok (.iload_n 1, 1) := by decide +kernel
theorem dX7_chosen_84 : decode cX7_chosen 84 = .ok (.ifCond .ne 7, 3) := by decide +kernel
theorem dX7_chosen_87 : decode cX7_chosen 87 = .ok (.iload_n 2, 1) := by decide +kernel
theorem dX7_chosen_88 : decode cX7_chosen 88 = .ok (.goto 7, 3) := by decide +kernel
theorem dX7_chosen_91 : decode cX7_chosen 91 = .ok (.aload_n 0, 1) := by decide +kernel
theorem dX7_chosen_92 : decode cX7_chosen 92 = .ok (.invokevirtual 179, 3) := by decide +kernel
theorem dX7_chosen_95 : decode cX7_chosen 95 = .ok (.ireturn, 1) := by decide +kernel
theorem dX7_flow_0 : decode cX7_flow 0 = .ok (.aload_n 0, 1) := by decide +kernel
theorem dX7_flow_1 : decode cX7_flow 1 = .ok (.aload_n 0, 1) := by decide +kernel
theorem dX7_flow_2 : decode cX7_flow 2 = .ok (.getfield 186, 3) := by decide +kernel
theorem dX7_flow_5 : decode cX7_flow 5 = .ok (.invokevirtual 189, 3) := by decide +kernel
theorem dX7_flow_8 : decode cX7_flow 8 = .ok (.istore_n 1, 1) := by decide +kernel
theorem dX7_flow_9 : decode cX7_flow 9 = .ok (.iconst 0, 1) := by decide +kernel
theorem dX7_flow_10 : decode cX7_flow 10 = .ok (.istore_n 2, 1) := by decide +kernel
theorem dX7_flow_11 : decode cX7_flow 11 = .ok (.iload_n 2, 1) := by decide +kernel
theorem dX7_flow_12 : decode cX7_flow 12 = .ok (.iconst 2, 1) := by decide +kernel
theorem dX7_flow_13 : decode cX7_flow 13 = .ok (.aload_n 0, 1) := by decide +kernel
theorem dX7_flow_14 : decode cX7_flow 14 = .ok (.getfield 111, 3) := by decide +kernel
theorem dX7_flow_17 : decode cX7_flow 17 = .ok (.imul, 1) := by decide +kernel
theorem dX7_flow_18 : decode cX7_flow 18 = .ok (.if_icmp .ge 72, 3) := by decide +kernel
theorem dX7_flow_21 : decode cX7_flow 21 = .ok (.iload_n 1, 1) := by decide +kernel
theorem dX7_flow_22 : decode cX7_flow 22 = .ok (.ifCond .ne 28, 3) := by decide +kernel
theorem dX7_flow_25 : decode cX7_flow 25 = .ok (.aload_n 0, 1) := by decide +kernel
theorem dX7_flow_26 : decode cX7_flow 26 = .ok (.getfield 28, 3) := by decide +kernel
theorem dX7_flow_29 : decode cX7_flow 29 = .ok (.iload_n 2, 1) := by decide +kernel
theorem dX7_flow_30 : decode cX7_flow 30 = .ok (.iaload, 1) := by decide +kernel
theorem dX7_flow_31 : decode cX7_flow 31 = .ok (.i2l, 1) := by decide +kernel
theorem dX7_flow_32 : decode cX7_flow 32 = .ok (.aload_n 0, 1) := by decide +kernel
theorem dX7_flow_33 : decode cX7_flow 33 = .ok (.getfield 19, 3) := by decide +kernel
theorem dX7_flow_36 : decode cX7_flow 36 = .ok (.iload_n 2, 1) := by decide +kernel
theorem dX7_flow_37 : decode cX7_flow 37 = .ok (.iconst 2, 1) := by decide +kernel
theorem dX7_flow_38 : decode cX7_flow 38 = .ok (.idiv, 1) := by decide +kernel
theorem dX7_flow_39 : decode cX7_flow 39 = .ok (.iaload, 1) := by decide +kernel
theorem dX7_flow_40 : decode cX7_flow 40 = .ok (.i2l, 1) := by decide +kernel
theorem dX7_flow_41 : decode cX7_flow 41 = .ok (.lmul, 1) := by decide +kernel
theorem dX7_flow_42 : decode cX7_flow 42 = .ok (.ldc2_w 192, 3) := by decide +kernel
theorem dX7_flow_45 : decode cX7_flow 45 = .ok (.ldiv, 1) := by decide +kernel
theorem dX7_flow_46 : decode cX7_flow 46 = .ok (.l2i, 1) := by decide +kernel
theorem dX7_flow_47 : decode cX7_flow 47 = .ok (.goto 4, 3) := by decide +kernel
theorem dX7_flow_50 : decode cX7_flow 50 = .ok (.iconst 0, 1) := by decide +kernel
theorem dX7_flow_51 : decode cX7_flow 51 = .ok (.istore_n 3, 1) := by decide +kernel
theorem dX7_flow_52 : decode cX7_flow 52 = .ok (.aload_n 0, 1) := by decide +kernel
theorem dX7_flow_53 : decode cX7_flow 53 = .ok (.getfield 28, 3) := by decide +kernel
theorem dX7_flow_56 : decode cX7_flow 56 = .ok (.iload_n 2, 1) := by decide +kernel
theorem dX7_flow_57 : decode cX7_flow 57 = .ok (.dup2, 1) := by decide +kernel
theorem dX7_flow_58 : decode cX7_flow 58 = .ok (.iaload, 1) := by decide +kernel
theorem dX7_flow_59 : decode cX7_flow 59 = .ok (.iload_n 3, 1) := by decide +kernel
theorem dX7_flow_60 : decode cX7_flow 60 = .ok (.isub, 1) := by decide +kernel
theorem dX7_flow_61 : decode cX7_flow 61 = .ok (.iastore, 1) := by decide +kernel
theorem dX7_flow_62 : decode cX7_flow 62 = .ok (.aload_n 0, 1) := by decide +kernel
theorem dX7_flow_63 : decode cX7_flow 63 = .ok (.getfield 25, 3) := by decide +kernel
theorem dX7_flow_66 : decode cX7_flow 66 = .ok (.iload_n 2, 1) := by decide +kernel
theorem dX7_flow_67 : decode cX7_flow 67 = .ok (.dup2, 1) := by decide +kernel
theorem dX7_flow_68 : decode cX7_flow 68 = .ok (.iaload, 1) := by decide +kernel
theorem dX7_flow_69 : decode cX7_flow 69 = .ok (.iload_n 3, 1) := by decide +kernel
theorem dX7_flow_70 : decode cX7_flow 70 = .ok (.iadd, 1) := by decide +kernel
theorem dX7_flow_71 : decode cX7_flow 71 = .ok (.iastore, 1) := by decide +kernel
theorem dX7_flow_72 : decode cX7_flow 72 = .ok (.aload_n 0, 1) := by decide +kernel
theorem dX7_flow_73 : decode cX7_flow 73 = .ok (.getfield 84, 3) := by decide +kernel
theorem dX7_flow_76 : decode cX7_flow 76 = .ok (.iload_n 2, 1) := by decide +kernel
theorem dX7_flow_77 : decode cX7_flow 77 = .ok (.aload_n 0, 1) := by decide +kernel
theorem dX7_flow_78 : decode cX7_flow 78 = .ok (.getfield 25, 3) := by decide +kernel
theorem dX7_flow_81 : decode cX7_flow 81 = .ok (.iload_n 2, 1) := by decide +kernel
theorem dX7_flow_82 : decode cX7_flow 82 = .ok (.iaload, 1) := by decide +kernel
theorem dX7_flow_83 : decode cX7_flow 83 = .ok (.iastore, 1) := by decide +kernel
theorem dX7_flow_84 : decode cX7_flow 84 = .ok (.iinc 2 1, 3) := by decide +kernel
theorem dX7_flow_87 : decode cX7_flow 87 = .ok (.goto (-76), 3) := by decide +kernel
theorem dX7_flow_90 : decode cX7_flow 90 = .ok (.iconst 0, 1) := by decide +kernel
theorem dX7_flow_91 : decode cX7_flow 91 = .ok (.istore_n 2, 1) := by decide +kernel
theorem dX7_flow_92 : decode cX7_flow 92 = .ok (.iload_n 2, 1) := by decide +kernel
theorem dX7_flow_93 : decode cX7_flow 93 = .ok (.aload_n 0, 1) := by decide +kernel
theorem dX7_flow_94 : decode cX7_flow 94 = .ok (.getfield 132, 3) := by decide +kernel
theorem dX7_flow_97 : decode cX7_flow 97 = .ok (.if_icmp .ge 127, 3) := by decide +kernel
theorem dX7_flow_100 : decode cX7_flow 100 = .ok (.aload_n 0, 1) := by decide +kernel
theorem dX7_flow_101 : decode cX7_flow 101 = .ok (.getfield 37, 3) := by decide +kernel
theorem dX7_flow_104 : decode cX7_flow 104 = .ok (.iload_n 2, 1) := by decide +kernel
theorem dX7_flow_105 : decode cX7_flow 105 = .ok (.iaload, 1) := by decide +kernel
theorem dX7_flow_106 : decode cX7_flow 106 = .ok (.iload_n 1, 1) := by decide +kernel
theorem dX7_flow_107 : decode cX7_flow 107 = .ok (.if_icmp .ne 111, 3) := by decide +kernel
theorem dX7_flow_110 : decode cX7_flow 110 = .ok (.aload_n 0, 1) := by decide +kernel
theorem dX7_flow_111 : decode cX7_flow 111 = .ok (.getfield 46, 3) := by decide +kernel
theorem dX7_flow_114 : decode cX7_flow 114 = .ok (.iload_n 2, 1) := by decide +kernel
theorem dX7_flow_115 : decode cX7_flow 115 = .ok (.baload, 1) := by decide +kernel
theorem dX7_flow_116 : decode cX7_flow 116 = .ok (.ifCond .ne 102, 3) := by decide +kernel
theorem dX7_flow_119 : decode cX7_flow 119 = .ok (.iconst 2, 1) := by decide +kernel
theorem dX7_flow_120 : decode cX7_flow 120 = .ok (.aload_n 0, 1) := by decide +kernel
theorem dX7_flow_121 : decode cX7_flow 121 = .ok (.getfield 31, 3) := by decide +kernel
theorem dX7_flow_124 : decode cX7_flow 124 = .ok (.iload_n 2, 1) := by decide +kernel
theorem dX7_flow_125 : decode cX7_flow 125 = .ok (.iaload, 1) := by decide +kernel
theorem dX7_flow_126 : decode cX7_flow 126 = .ok (.imul, 1) := by decide +kernel
theorem dX7_flow_127 : decode cX7_flow 127 = .ok (.aload_n 0, 1) := by decide +kernel
theorem dX7_flow_128 : decode cX7_flow 128 = .ok (.getfield 40, 3) := by decide +kernel
theorem dX7_flow_131 : decode cX7_flow 131 = .ok (.iload_n 2, 1) := by decide +kernel
theorem dX7_flow_132 : decode cX7_flow 132 = .ok (.iaload, 1) := by decide +kernel
theorem dX7_flow_133 : decode cX7_flow 133 = .ok (.iadd, 1) := by decide +kernel
theorem dX7_flow_134 : decode cX7_flow 134 = .ok (.istore_n 3, 1) := by decide +kernel
theorem dX7_flow_135 : decode cX7_flow 135 = .ok (.aload_n 0, 1) := by decide +kernel
theorem dX7_flow_136 : decode cX7_flow 136 = .ok (.getfield 84, 3) := by decide +kernel
theorem dX7_flow_139 : decode cX7_flow 139 = .ok (.iload_n 3, 1) := by decide +kernel
theorem dX7_flow_140 : decode cX7_flow 140 = .ok (.iaload, 1) := by decide +kernel
theorem dX7_flow_141 : decode cX7_flow 141 = .ok (.i2l, 1) := by decide +kernel
theorem dX7_flow_142 : decode cX7_flow 142 = .ok (.aload_n 0, 1) := by decide +kernel
theorem dX7_flow_143 : decode cX7_flow 143 = .ok (.getfield 43, 3) := by decide +kernel
theorem dX7_flow_146 : decode cX7_flow 146 = .ok (.iload_n 2, 1) := by decide +kernel
theorem dX7_flow_147 : decode cX7_flow 147 = .ok (.iaload, 1) := by decide +kernel
theorem dX7_flow_148 : decode cX7_flow 148 = .ok (.i2l, 1) := by decide +kernel
theorem dX7_flow_149 : decode cX7_flow 149 = .ok (.lmul, 1) := by decide +kernel
theorem dX7_flow_150 : decode cX7_flow 150 = .ok (.ldc2_w 192, 3) := by decide +kernel
theorem dX7_flow_153 : decode cX7_flow 153 = .ok (.ldiv, 1) := by decide +kernel
theorem dX7_flow_154 : decode cX7_flow 154 = .ok (.l2i, 1) := by decide +kernel
theorem dX7_flow_155 : decode cX7_flow 155 = .ok (.istore 4, 2) := by decide +kernel
theorem dX7_flow_157 : decode cX7_flow 157 = .ok (.aload_n 0, 1) := by decide +kernel
theorem dX7_flow_158 : decode cX7_flow 158 = .ok (.getfield 25, 3) := by decide +kernel
theorem dX7_flow_161 : decode cX7_flow 161 = .ok (.iload_n 3, 1) := by decide +kernel
theorem dX7_flow_162 : decode cX7_flow 162 = .ok (.dup2, 1) := by decide +kernel
theorem dX7_flow_163 : decode cX7_flow 163 = .ok (.iaload, 1) := by decide +kernel
theorem dX7_flow_164 : decode cX7_flow 164 = .ok (.iload 4, 2) := by decide +kernel
theorem dX7_flow_166 : decode cX7_flow 166 = .ok (.isub, 1) := by decide +kernel
theorem dX7_flow_167 : decode cX7_flow 167 = .ok (.iastore, 1) := by decide +kernel
theorem dX7_flow_168 : decode cX7_flow 168 = .ok (.aload_n 0, 1) := by decide +kernel
theorem dX7_flow_169 : decode cX7_flow 169 = .ok (.getfield 34, 3) := by decide +kernel
theorem dX7_flow_172 : decode cX7_flow 172 = .ok (.iload_n 2, 1) := by decide +kernel
theorem dX7_flow_173 : decode cX7_flow 173 = .ok (.iaload, 1) := by decide +kernel
theorem dX7_flow_174 : decode cX7_flow 174 = .ok (.bipush 8, 2) := by decide +kernel
theorem dX7_flow_176 : decode cX7_flow 176 = .ok (.if_icmp .ne 17, 3) := by decide +kernel
theorem dX7_flow_179 : decode cX7_flow 179 = .ok (.aload_n 0, 1) := by decide +kernel
theorem dX7_flow_180 : decode cX7_flow 180 = .ok (.dup, 1) := by decide +kernel
theorem dX7_flow_181 : decode cX7_flow 181 = .ok (.getfield 194, 3) := by decide +kernel
theorem dX7_flow_184 : decode cX7_flow 184 = .ok (.iload 4, 2) := by decide +kernel
theorem dX7_flow_186 : decode cX7_flow 186 = .ok (.iadd, 1) := by decide +kernel
theorem dX7_flow_187 : decode cX7_flow 187 = .ok (.putfield 194, 3) := by decide +kernel
theorem dX7_flow_190 : decode cX7_flow 190 = .ok (.goto 28, 3) := by decide +kernel
theorem dX7_flow_193 : decode cX7_flow 193 = .ok (.aload_n 0, 1) := by decide +kernel
theorem dX7_flow_194 : decode cX7_flow 194 = .ok (.getfield 25, 3) := by decide +kernel
theorem dX7_flow_197 : decode cX7_flow 197 = .ok (.iconst 2, 1) := by decide +kernel
theorem dX7_flow_198 : decode cX7_flow 198 = .ok (.aload_n 0, 1) := by decide +kernel
theorem dX7_flow_199 : decode cX7_flow 199 = .ok (.getfield 34, 3) := by decide +kernel
theorem dX7_flow_202 : decode cX7_flow 202 = .ok (.iload_n 2, 1) := by decide +kernel
theorem dX7_flow_203 : decode cX7_flow 203 = .ok (.iaload, 1) := by decide +kernel
theorem dX7_flow_204 : decode cX7_flow 204 = .ok (.imul, 1) := by decide +kernel
theorem dX7_flow_205 : decode cX7_flow 205 = .ok (.aload_n 0, 1) := by decide +kernel
theorem dX7_flow_206 : decode cX7_flow 206 = .ok (.getfield 40, 3) := by decide +kernel
theorem dX7_flow_209 : decode cX7_flow 209 = .ok (.iload_n 2, 1) := by decide +kernel
theorem dX7_flow_210 : decode cX7_flow 210 = .ok (.iaload, 1) := by decide +kernel
theorem dX7_flow_211 : decode cX7_flow 211 = .ok (.iadd, 1) := by decide +kernel
theorem dX7_flow_212 : decode cX7_flow 212 = .ok (.dup2, 1) := by decide +kernel
theorem dX7_flow_213 : decode cX7_flow 213 = .ok (.iaload, 1) := by decide +kernel
theorem dX7_flow_214 : decode cX7_flow 214 = .ok (.iload 4, 2) := by decide +kernel
theorem dX7_flow_216 : decode cX7_flow 216 = .ok (.iadd, 1) := by decide +kernel
theorem dX7_flow_217 : decode cX7_flow 217 = .ok (.iastore, 1) := by decide +kernel
theorem dX7_flow_218 : decode cX7_flow 218 = .ok (.iinc 2 1, 3) := by decide +kernel
theorem dX7_flow_221 : decode cX7_flow 221 = .ok (.goto (-129), 3) := by decide +kernel
theorem dX7_flow_224 : decode cX7_flow 224 = .ok (.iconst 0, 1) := by decide +kernel
theorem dX7_flow_225 : decode cX7_flow 225 = .ok (.istore_n 2, 1) := by decide +kernel
theorem dX7_flow_226 : decode cX7_flow 226 = .ok (.iload_n 2, 1) := by decide +kernel
theorem dX7_flow_227 : decode cX7_flow 227 = .ok (.aload_n 0, 1) := by decide +kernel
theorem dX7_flow_228 : decode cX7_flow 228 = .ok (.getfield 147, 3) := by decide +kernel
theorem dX7_flow_231 : decode cX7_flow 231 = .ok (.if_icmp .ge 50, 3) := by decide +kernel
theorem dX7_flow_234 : decode cX7_flow 234 = .ok (.aload_n 0, 1) := by decide +kernel
theorem dX7_flow_235 : decode cX7_flow 235 = .ok (.getfield 25, 3) := by decide +kernel
theorem dX7_flow_238 : decode cX7_flow 238 = .ok (.iconst 2, 1) := by decide +kernel
theorem dX7_flow_239 : decode cX7_flow 239 = .ok (.aload_n 0, 1) := by decide +kernel
theorem dX7_flow_240 : decode cX7_flow 240 = .ok (.getfield 50, 3) := by decide +kernel
theorem dX7_flow_243 : decode cX7_flow 243 = .ok (.iload_n 2, 1) := by decide +kernel
theorem dX7_flow_244 : decode cX7_flow 244 = .ok (.iaload, 1) := by decide +kernel
theorem dX7_flow_245 : decode cX7_flow 245 = .ok (.imul, 1) := by decide +kernel
theorem dX7_flow_246 : decode cX7_flow 246 = .ok (.aload_n 0, 1) := by decide +kernel
theorem dX7_flow_247 : decode cX7_flow 247 = .ok (.getfield 53, 3) := by decide +kernel
theorem dX7_flow_250 : decode cX7_flow 250 = .ok (.iload_n 2, 1) := by decide +kernel
theorem dX7_flow_251 : decode cX7_flow 251 = .ok (.iaload, 1) := by decide +kernel
theorem dX7_flow_252 : decode cX7_flow 252 = .ok (.iadd, 1) := by decide +kernel
theorem dX7_flow_253 : decode cX7_flow 253 = .ok (.dup2, 1) := by decide +kernel
theorem dX7_flow_254 : decode cX7_flow 254 = .ok (.iaload, 1) := by decide +kernel
theorem dX7_flow_255 : decode cX7_flow 255 = .ok (.iload_n 2, 1) := by decide +kernel
theorem dX7_flow_256 : decode cX7_flow 256 = .ok (.aload_n 0, 1) := by decide +kernel
theorem dX7_flow_257 : decode cX7_flow 257 = .ok (.getfield 81, 3) := by decide +kernel
theorem dX7_flow_260 : decode cX7_flow 260 = .ok (.if_icmp .ne 7, 3) := by decide +kernel
theorem dX7_flow_263 : decode cX7_flow 263 = .ok (.iconst 0, 1) := by decide +kernel
theorem dX7_flow_264 : decode cX7_flow 264 = .ok (.goto 9, 3) := by decide +kernel
theorem dX7_flow_267 : decode cX7_flow 267 = .ok (.aload_n 0, 1) := by decide +kernel
theorem dX7_flow_268 : decode cX7_flow 268 = .ok (.getfield 56, 3) := by decide +kernel
theorem dX7_flow_271 : decode cX7_flow 271 = .ok (.iload_n 2, 1) := by decide +kernel
theorem dX7_flow_272 : decode cX7_flow 272 = .ok (.iaload, 1) := by decide +kernel
theorem dX7_flow_273 : decode cX7_flow 273 = .ok (.iadd, 1) := by decide +kernel
theorem dX7_flow_274 : decode cX7_flow 274 = .ok (.iastore, 1) := by decide +kernel
theorem dX7_flow_275 : decode cX7_flow 275 = .ok (.iinc 2 1, 3) := by decide +kernel
theorem dX7_flow_278 : decode cX7_flow 278 = .ok (.goto (-52), 3) := by decide +kernel
theorem dX7_flow_281 : decode cX7_flow 281 = .ok (.iconst 0, 1) := by decide +kernel
theorem dX7_flow_282 : decode cX7_flow 282 = .ok (.istore_n 2, 1) := by decide +kernel
theorem dX7_flow_283 : decode cX7_flow 283 = .ok (.iload_n 2, 1) := by decide +kernel
theorem dX7_flow_284 : decode cX7_flow 284 = .ok (.iconst 2, 1) := by decide +kernel
theorem dX7_flow_285 : decode cX7_flow 285 = .ok (.aload_n 0, 1) := by decide +kernel
theorem dX7_flow_286 : decode cX7_flow 286 = .ok (.getfield 111, 3) := by decide +kernel
theorem dX7_flow_289 : decode cX7_flow 289 = .ok (.imul, 1) := by decide +kernel
theorem dX7_flow_290 : decode cX7_flow 290 = .ok (.if_icmp .ge 52, 3) := by decide +kernel
theorem dX7_flow_293 : decode cX7_flow 293 = .ok (.aload_n 0, 1) := by decide +kernel
theorem dX7_flow_294 : decode cX7_flow 294 = .ok (.getfield 25, 3) := by decide +kernel
theorem dX7_flow_297 : decode cX7_flow 297 = .ok (.iload_n 2, 1) := by decide +kernel
theorem dX7_flow_298 : decode cX7_flow 298 = .ok (.iaload, 1) := by decide +kernel
theorem dX7_flow_299 : decode cX7_flow 299 = .ok (.i2l, 1) := by decide +kernel
theorem dX7_flow_300 : decode cX7_flow 300 = .ok (.aload_n 0, 1) := by decide +kernel
theorem dX7_flow_301 : decode cX7_flow 301 = .ok (.getfield 16, 3) := by decide +kernel
theorem dX7_flow_304 : decode cX7_flow 304 = .ok (.iload_n 2, 1) := by decide +kernel
theorem dX7_flow_305 : decode cX7_flow 305 = .ok (.iconst 2, 1) := by decide +kernel
theorem dX7_flow_306 : decode cX7_flow 306 = .ok (.idiv, 1) := by decide +kernel
theorem dX7_flow_307 : decode cX7_flow 307 = .ok (.iaload, 1) := by decide +kernel
theorem dX7_flow_308 : decode cX7_flow 308 = .ok (.i2l, 1) := by decide +kernel
theorem dX7_flow_309 : decode cX7_flow 309 = .ok (.lmul, 1) := by decide +kernel
theorem dX7_flow_310 : decode cX7_flow 310 = .ok (.ldc2_w 192, 3) := by decide +kernel
theorem dX7_flow_313 : decode cX7_flow 313 = .ok (.ldiv, 1) := by decide +kernel
theorem dX7_flow_314 : decode cX7_flow 314 = .ok (.l2i, 1) := by decide +kernel
theorem dX7_flow_315 : decode cX7_flow 315 = .ok (.istore_n 3, 1) := by decide +kernel
theorem dX7_flow_316 : decode cX7_flow 316 = .ok (.aload_n 0, 1) := by decide +kernel
theorem dX7_flow_317 : decode cX7_flow 317 = .ok (.getfield 25, 3) := by decide +kernel
theorem dX7_flow_320 : decode cX7_flow 320 = .ok (.iload_n 2, 1) := by decide +kernel
theorem dX7_flow_321 : decode cX7_flow 321 = .ok (.dup2, 1) := by decide +kernel
theorem dX7_flow_322 : decode cX7_flow 322 = .ok (.iaload, 1) := by decide +kernel
theorem dX7_flow_323 : decode cX7_flow 323 = .ok (.iload_n 3, 1) := by decide +kernel
theorem dX7_flow_324 : decode cX7_flow 324 = .ok (.isub, 1) := by decide +kernel
theorem dX7_flow_325 : decode cX7_flow 325 = .ok (.iastore, 1) := by decide +kernel
theorem dX7_flow_326 : decode cX7_flow 326 = .ok (.aload_n 0, 1) := by decide +kernel
theorem dX7_flow_327 : decode cX7_flow 327 = .ok (.getfield 28, 3) := by decide +kernel
theorem dX7_flow_330 : decode cX7_flow 330 = .ok (.iload_n 2, 1) := by decide +kernel
theorem dX7_flow_331 : decode cX7_flow 331 = .ok (.dup2, 1) := by decide +kernel
theorem dX7_flow_332 : decode cX7_flow 332 = .ok (.iaload, 1) := by decide +kernel
theorem dX7_flow_333 : decode cX7_flow 333 = .ok (.iload_n 3, 1) := by decide +kernel
theorem dX7_flow_334 : decode cX7_flow 334 = .ok (.iadd, 1) := by decide +kernel
theorem dX7_flow_335 : decode cX7_flow 335 = .ok (.iastore, 1) := by decide +kernel
theorem dX7_flow_336 : decode cX7_flow 336 = .ok (.iinc 2 1, 3) := by decide +kernel
theorem dX7_flow_339 : decode cX7_flow 339 = .ok (.goto (-56), 3) := by decide +kernel
theorem dX7_flow_342 : decode cX7_flow 342 = .ok (.return_, 1) := by decide +kernel
theorem dX7_take_0 : decode cX7_take 0 = .ok (.aload_n 0, 1) := by decide +kernel
theorem dX7_take_1 : decode cX7_take 1 = .ok (.iconst 0, 1) := by decide +kernel
theorem dX7_take_2 : decode cX7_take 2 = .ok (.putfield 197, 3) := by decide +kernel
theorem dX7_take_5 : decode cX7_take 5 = .ok (.aload_n 0, 1) := by decide +kernel
theorem dX7_take_6 : decode cX7_take 6 = .ok (.iconst 0, 1) := by decide +kernel
theorem dX7_take_7 : decode cX7_take 7 = .ok (.putfield 200, 3) := by decide +kernel
theorem dX7_take_10 : decode cX7_take 10 = .ok (.iload_n 1, 1) := by decide +kernel
theorem dX7_take_11 : decode cX7_take 11 = .ok (.ifCond .lt 11, 3) := by decide +kernel
theorem dX7_take_14 : decode cX7_take 14 = .ok (.iload_n 1, 1) := by decide +kernel
theorem dX7_take_15 : decode cX7_take 15 = .ok (.aload_n 0, 1) := by decide +kernel
theorem dX7_take_16 : decode cX7_take 16 = .ok (.getfield 66, 3) := by decide +kernel
theorem dX7_take_19 : decode cX7_take 19 = .ok (.if_icmp .ne 4, 3) := by decide +kernel
theorem dX7_take_22 : decode cX7_take 22 = .ok (.return_, 1) := by decide +kernel
theorem dX7_take_23 : decode cX7_take 23 = .ok (.aload_n 0, 1) := by decide +kernel
theorem dX7_take_24 : decode cX7_take 24 = .ok (.getfield 170, 3) := by decide +kernel
theorem dX7_take_27 : decode cX7_take 27 = .ok (.istore_n 2, 1) := by decide +kernel
theorem dX7_take_28 : decode cX7_take 28 = .ok (.iconst 1, 1) := by decide +kernel
theorem dX7_take_29 : decode cX7_take 29 = .ok (.istore_n 3, 1) := by decide +kernel
theorem dX7_take_30 : decode cX7_take 30 = .ok (.iload_n 3, 1) := by decide +kernel
theorem dX7_take_31 : decode cX7_take 31 = .ok (.ifCond .lt 120, 3) := by decide +kernel
theorem dX7_take_34 : decode cX7_take 34 = .ok (.iconst 2, 1) := by decide +kernel
theorem dX7_take_35 : decode cX7_take 35 = .ok (.iload_n 1, 1) := by decide +kernel
theorem dX7_take_36 : decode cX7_take 36 = .ok (.imul, 1) := by decide +kernel
theorem dX7_take_37 : decode cX7_take 37 = .ok (.iload_n 3, 1) := by decide +kernel
theorem dX7_take_38 : decode cX7_take 38 = .ok (.iadd, 1) := by decide +kernel
theorem dX7_take_39 : decode cX7_take 39 = .ok (.istore 4, 2) := by decide +kernel
theorem dX7_take_41 : decode cX7_take 41 = .ok (.aload_n 0, 1) := by decide +kernel
theorem dX7_take_42 : decode cX7_take 42 = .ok (.getfield 28, 3) := by decide +kernel
theorem dX7_take_45 : decode cX7_take 45 = .ok (.iload 4, 2) := by decide +kernel
theorem dX7_take_47 : decode cX7_take 47 = .ok (.iaload, 1) := by decide +kernel
theorem dX7_take_48 : decode cX7_take 48 = .ok (.iload_n 2, 1) := by decide +kernel
theorem dX7_take_49 : decode cX7_take 49 = .ok (.if_icmp .ge 13, 3) := by decide +kernel
theorem dX7_take_52 : decode cX7_take 52 = .ok (.aload_n 0, 1) := by decide +kernel
theorem dX7_take_53 : decode cX7_take 53 = .ok (.getfield 28, 3) := by decide +kernel
theorem dX7_take_56 : decode cX7_take 56 = .ok (.iload 4, 2) := by decide +kernel
theorem dX7_take_58 : decode cX7_take 58 = .ok (.iaload, 1) := by decide +kernel
theorem dX7_take_59 : decode cX7_take 59 = .ok (.goto 4, 3) := by decide +kernel
theorem dX7_take_62 : decode cX7_take 62 = .ok (.iload_n 2, 1) := by decide +kernel
theorem dX7_take_63 : decode cX7_take 63 = .ok (.istore 5, 2) := by decide +kernel
theorem dX7_take_65 : decode cX7_take 65 = .ok (.aload_n 0, 1) := by decide +kernel
theorem dX7_take_66 : decode cX7_take 66 = .ok (.getfield 28, 3) := by decide +kernel
theorem dX7_take_69 : decode cX7_take 69 = .ok (.iload 4, 2) := by decide +kernel
theorem dX7_take_71 : decode cX7_take 71 = .ok (.dup2, 1) := by decide +kernel
theorem dX7_take_72 : decode cX7_take 72 = .ok (.iaload, 1) := by decide +kernel
theorem dX7_take_73 : decode cX7_take 73 = .ok (.iload 5, 2) := by decide +kernel
theorem dX7_take_75 : decode cX7_take 75 = .ok (.isub, 1) := by decide +kernel
theorem dX7_take_76 : decode cX7_take 76 = .ok (.iastore, 1) := by decide +kernel
theorem dX7_take_77 : decode cX7_take 77 = .ok (.iload_n 2, 1) := by decide +kernel
theorem dX7_take_78 : decode cX7_take 78 = .ok (.iload 5, 2) := by decide +kernel
theorem dX7_take_80 : decode cX7_take 80 = .ok (.isub, 1) := by decide +kernel
theorem dX7_take_81 : decode cX7_take 81 = .ok (.istore_n 2, 1) := by decide +kernel
theorem dX7_take_82 : decode cX7_take 82 = .ok (.aload_n 0, 1) := by decide +kernel
theorem dX7_take_83 : decode cX7_take 83 = .ok (.dup, 1) := by decide +kernel
theorem dX7_take_84 : decode cX7_take 84 = .ok (.getfield 197, 3) := by decide +kernel
theorem dX7_take_87 : decode cX7_take 87 = .ok (.iload 5, 2) := by decide +kernel
theorem dX7_take_89 : decode cX7_take 89 = .ok (.iadd, 1) := by decide +kernel
theorem dX7_take_90 : decode cX7_take 90 = .ok (.putfield 197, 3) := by decide +kernel
theorem dX7_take_93 : decode cX7_take 93 = .ok (.aload_n 0, 1) := by decide +kernel
theorem dX7_take_94 : decode cX7_take 94 = .ok (.getfield 66, 3) := by decide +kernel
theorem dX7_take_97 : decode cX7_take 97 = .ok (.bipush 8, 2) := by decide +kernel
theorem dX7_take_99 : decode cX7_take 99 = .ok (.if_icmp .ne 28, 3) := by decide +kernel
theorem dX7_take_102 : decode cX7_take 102 = .ok (.aload_n 0, 1) := by decide +kernel
theorem dX7_take_103 : decode cX7_take 103 = .ok (.dup, 1) := by decide +kernel
theorem dX7_take_104 : decode cX7_take 104 = .ok (.getfield 200, 3) := by decide +kernel
theorem dX7_take_107 : decode cX7_take 107 = .ok (.iload 5, 2) := by decide +kernel
theorem dX7_take_109 : decode cX7_take 109 = .ok (.iadd, 1) := by decide +kernel
theorem dX7_take_110 : decode cX7_take 110 = .ok (.putfield 200, 3) := by decide +kernel
theorem dX7_take_113 : decode cX7_take 113 = .ok (.aload_n 0, 1) := by decide +kernel
theorem dX7_take_114 : decode cX7_take 114 = .ok (.dup, 1) := by decide +kernel
theorem dX7_take_115 : decode cX7_take 115 = .ok (.getfield 194, 3) := by decide +kernel
theorem dX7_take_118 : decode cX7_take 118 = .ok (.iload 5, 2) := by decide +kernel
theorem dX7_take_120 : decode cX7_take 120 = .ok (.iadd, 1) := by decide +kernel
theorem dX7_take_121 : decode cX7_take 121 = .ok (.putfield 194, 3) := by decide +kernel
theorem dX7_take_124 : decode cX7_take 124 = .ok (.goto 21, 3) := by decide +kernel
theorem dX7_take_127 : decode cX7_take 127 = .ok (.aload_n 0, 1) := by decide +kernel
theorem dX7_take_128 : decode cX7_take 128 = .ok (.getfield 25, 3) := by decide +kernel
theorem dX7_take_131 : decode cX7_take 131 = .ok (.iconst 2, 1) := by decide +kernel
theorem dX7_take_132 : decode cX7_take 132 = .ok (.aload_n 0, 1) := by decide +kernel
theorem dX7_take_133 : decode cX7_take 133 = .ok (.getfield 66, 3) := by decide +kernel
theorem dX7_take_136 : decode cX7_take 136 = .ok (.imul, 1) := by decide +kernel
theorem dX7_take_137 : decode cX7_take 137 = .ok (.iload_n 3, 1) := by decide +kernel
theorem dX7_take_138 : decode cX7_take 138 = .ok (.iadd, 1) := by decide +kernel
theorem dX7_take_139 : decode cX7_take 139 = .ok (.dup2, 1) := by decide +kernel
theorem dX7_take_140 : decode cX7_take 140 = .ok (.iaload, 1) := by decide +kernel
theorem dX7_take_141 : decode cX7_take 141 = .ok (.iload 5, 2) := by decide +kernel
theorem dX7_take_143 : decode cX7_take 143 = .ok (.iadd, 1) := by decide +kernel
theorem dX7_take_144 : decode cX7_take 144 = .ok (.iastore, 1) := by decide +kernel
theorem dX7_take_145 : decode cX7_take 145 = .ok (.iinc 3 (-1), 3) := by decide +kernel
theorem dX7_take_148 : decode cX7_take 148 = .ok (.goto (-118), 3) := by decide +kernel
theorem dX7_take_151 : decode cX7_take 151 = .ok (.aload_n 0, 1) := by decide +kernel
theorem dX7_take_152 : decode cX7_take 152 = .ok (.dup, 1) := by decide +kernel
theorem dX7_take_153 : decode cX7_take 153 = .ok (.getfield 203, 3) := by decide +kernel
theorem dX7_take_156 : decode cX7_take 156 = .ok (.aload_n 0, 1) := by decide +kernel
theorem dX7_take_157 : decode cX7_take 157 = .ok (.getfield 197, 3) := by decide +kernel
theorem dX7_take_160 : decode cX7_take 160 = .ok (.iadd, 1) := by decide +kernel
theorem dX7_take_161 : decode cX7_take 161 = .ok (.putfield 203, 3) := by decide +kernel
theorem dX7_take_164 : decode cX7_take 164 = .ok (.return_, 1) := by decide +kernel
theorem dX7_feetLacking_0 : decode cX7_feetLacking 0 = .ok (.iconst 0, 1) := by decide +kernel
theorem dX7_feetLacking_1 : decode cX7_feetLacking 1 = .ok (.istore_n 2, 1) := by decide +kernel
theorem dX7_feetLacking_2 : decode cX7_feetLacking 2 = .ok (.iconst 0, 1) := by decide +kernel
theorem dX7_feetLacking_3 : decode cX7_feetLacking 3 = .ok (.istore_n 3, 1) := by decide +kernel
theorem dX7_feetLacking_4 : decode cX7_feetLacking 4 = .ok (.iload_n 3, 1) := by decide +kernel
theorem dX7_feetLacking_5 : decode cX7_feetLacking 5 = .ok (.aload_n 0, 1) := by decide +kernel
theorem dX7_feetLacking_6 : decode cX7_feetLacking 6 = .ok (.getfield 111, 3) := by decide +kernel
theorem dX7_feetLacking_9 : decode cX7_feetLacking 9 = .ok (.if_icmp .ge 45, 3) := by decide +kernel
theorem dX7_feetLacking_12 : decode cX7_feetLacking 12 = .ok (.aload_n 0, 1) := by decide +kernel
theorem dX7_feetLacking_13 : decode cX7_feetLacking 13 = .ok (.iload_n 3, 1) := by decide +kernel
theorem dX7_feetLacking_14 : decode cX7_feetLacking 14 = .ok (.invokevirtual 164, 3) := by decide +kernel
theorem dX7_feetLacking_17 : decode cX7_feetLacking 17 = .ok (.istore 4, 2) := by decide +kernel
theorem dX7_feetLacking_19 : decode cX7_feetLacking 19 = .ok (.iload_n 2, 1) := by decide +kernel
theorem dX7_feetLacking_20 : decode cX7_feetLacking 20 = .ok (.iload 4, 2) := by decide +kernel
theorem dX7_feetLacking_22 : decode cX7_feetLacking 22 = .ok (.ifCond .le 23, 3) := by decide +kernel
theorem dX7_feetLacking_25 : decode cX7_feetLacking 25 = .ok (.iload 4, 2) := by decide +kernel
theorem dX7_feetLacking_27 : decode cX7_feetLacking 27 = .ok (.iload_n 1, 1) := by decide +kernel
theorem dX7_feetLacking_28 : decode cX7_feetLacking 28 = .ok (.ifCond .eq 12, 3) := by decide +kernel
theorem dX7_feetLacking_31 : decode cX7_feetLacking 31 = .ok (.aload_n 0, 1) := by decide +kernel
theorem dX7_feetLacking_32 : decode cX7_feetLacking 32 = .ok (.getfield 22, 3) := by decide +kernel
theorem dX7_feetLacking_35 : decode cX7_feetLacking 35 = .ok (.iload_n 3, 1) := by decide +kernel
theorem dX7_feetLacking_36 : decode cX7_feetLacking 36 = .ok (.iaload, 1) := by decide +kernel
theorem dX7_feetLacking_37 : decode cX7_feetLacking 37 = .ok (.goto 4, 3) := by decide +kernel
theorem dX7_feetLacking_40 : decode cX7_feetLacking 40 = .ok (.iconst 1, 1) := by decide +kernel
theorem dX7_feetLacking_41 : decode cX7_feetLacking 41 = .ok (.imul, 1) := by decide +kernel
theorem dX7_feetLacking_42 : decode cX7_feetLacking 42 = .ok (.goto 4, 3) := by decide +kernel
theorem dX7_feetLacking_45 : decode cX7_feetLacking 45 = .ok (.iconst 0, 1) := by decide +kernel
theorem dX7_feetLacking_46 : decode cX7_feetLacking 46 = .ok (.iadd, 1) := by decide +kernel
theorem dX7_feetLacking_47 : decode cX7_feetLacking 47 = .ok (.istore_n 2, 1) := by decide +kernel
theorem dX7_feetLacking_48 : decode cX7_feetLacking 48 = .ok (.iinc 3 1, 3) := by decide +kernel
theorem dX7_feetLacking_51 : decode cX7_feetLacking 51 = .ok (.goto (-47), 3) := by decide +kernel
theorem dX7_feetLacking_54 : decode cX7_feetLacking 54 = .ok (.iload_n 2, 1) := by decide +kernel
theorem dX7_feetLacking_55 : decode cX7_feetLacking 55 = .ok (.ireturn, 1) := by decide +kernel
theorem dX7_costNow_0 : decode cX7_costNow 0 = .ok (.aload_n 0, 1) := by decide +kernel
theorem dX7_costNow_1 : decode cX7_costNow 1 = .ok (.iconst 1, 1) := by decide +kernel
theorem dX7_costNow_2 : decode cX7_costNow 2 = .ok (.invokevirtual 206, 3) := by decide +kernel
theorem dX7_costNow_5 : decode cX7_costNow 5 = .ok (.aload_n 0, 1) := by decide +kernel
theorem dX7_costNow_6 : decode cX7_costNow 6 = .ok (.getfield 197, 3) := by decide +kernel
theorem dX7_costNow_9 : decode cX7_costNow 9 = .ok (.aload_n 0, 1) := by decide +kernel
theorem dX7_costNow_10 : decode cX7_costNow 10 = .ok (.getfield 69, 3) := by decide +kernel
theorem dX7_costNow_13 : decode cX7_costNow 13 = .ok (.imul, 1) := by decide +kernel
theorem dX7_costNow_14 : decode cX7_costNow 14 = .ok (.iadd, 1) := by decide +kernel
theorem dX7_costNow_15 : decode cX7_costNow 15 = .ok (.iconst 2, 1) := by decide +kernel
theorem dX7_costNow_16 : decode cX7_costNow 16 = .ok (.aload_n 0, 1) := by decide +kernel
theorem dX7_costNow_17 : decode cX7_costNow 17 = .ok (.getfield 200, 3) := by decide +kernel
theorem dX7_costNow_20 : decode cX7_costNow 20 = .ok (.imul, 1) := by decide +kernel
theorem dX7_costNow_21 : decode cX7_costNow 21 = .ok (.iadd, 1) := by decide +kernel
theorem dX7_costNow_22 : decode cX7_costNow 22 = .ok (.ireturn, 1) := by decide +kernel
theorem dX7_passTide_0 : decode cX7_passTide 0 = .ok (.aload_n 0, 1) := by decide +kernel
theorem dX7_passTide_1 : decode cX7_passTide 1 = .ok (.invokevirtual 210, 3) := by decide +kernel
theorem dX7_passTide_4 : decode cX7_passTide 4 = .ok (.aload_n 0, 1) := by decide +kernel
theorem dX7_passTide_5 : decode cX7_passTide 5 = .ok (.aload_n 0, 1) := by decide +kernel
theorem dX7_passTide_6 : decode cX7_passTide 6 = .ok (.aload_n 0, 1) := by decide +kernel
theorem dX7_passTide_7 : decode cX7_passTide 7 = .ok (.aload_n 0, 1) := by decide +kernel
theorem dX7_passTide_8 : decode cX7_passTide 8 = .ok (.getfield 186, 3) := by decide +kernel
theorem dX7_passTide_11 : decode cX7_passTide 11 = .ok (.invokevirtual 189, 3) := by decide +kernel
theorem dX7_passTide_14 : decode cX7_passTide 14 = .ok (.invokevirtual 213, 3) := by decide +kernel
theorem dX7_passTide_17 : decode cX7_passTide 17 = .ok (.invokevirtual 216, 3) := by decide +kernel
theorem dX7_passTide_20 : decode cX7_passTide 20 = .ok (.aload_n 0, 1) := by decide +kernel
theorem dX7_passTide_21 : decode cX7_passTide 21 = .ok (.dup, 1) := by decide +kernel
theorem dX7_passTide_22 : decode cX7_passTide 22 = .ok (.getfield 186, 3) := by decide +kernel
theorem dX7_passTide_25 : decode cX7_passTide 25 = .ok (.iconst 1, 1) := by decide +kernel
theorem dX7_passTide_26 : decode cX7_passTide 26 = .ok (.iadd, 1) := by decide +kernel
theorem dX7_passTide_27 : decode cX7_passTide 27 = .ok (.putfield 186, 3) := by decide +kernel
theorem dX7_passTide_30 : decode cX7_passTide 30 = .ok (.return_, 1) := by decide +kernel
theorem dX7_takes_0 : decode cX7_takes 0 = .ok (.aload_n 0, 1) := by decide +kernel
theorem dX7_takes_1 : decode cX7_takes 1 = .ok (.getfield 111, 3) := by decide +kernel
theorem dX7_takes_4 : decode cX7_takes 4 = .ok (.ifCond .ne 12, 3) := by decide +kernel
theorem dX7_takes_7 : decode cX7_takes 7 = .ok (.aload_n 0, 1) := by decide +kernel
theorem dX7_takes_8 : decode cX7_takes 8 = .ok (.bipush (-3), 2) := by decide +kernel
theorem dX7_takes_10 : decode cX7_takes 10 = .ok (.invokevirtual 118, 3) := by decide +kernel
theorem dX7_takes_13 : decode cX7_takes 13 = .ok (.goto 15, 3) := by decide +kernel
theorem dX7_takes_16 : decode cX7_takes 16 = .ok (.aload_n 0, 1) := by decide +kernel
theorem dX7_takes_17 : decode cX7_takes 17 = .ok (.aload_n 0, 1) := by decide +kernel
theorem dX7_takes_18 : decode cX7_takes 18 = .ok (.aload_n 0, 1) := by decide +kernel
theorem dX7_takes_19 : decode cX7_takes 19 = .ok (.getfield 186, 3) := by decide +kernel
theorem dX7_takes_22 : decode cX7_takes 22 = .ok (.invokevirtual 189, 3) := by decide +kernel
theorem dX7_takes_25 : decode cX7_takes 25 = .ok (.invokevirtual 213, 3) := by decide +kernel
theorem dX7_takes_28 : decode cX7_takes 28 = .ok (.ireturn, 1) := by decide +kernel
theorem dX7_wrongTides_0 : decode cX7_wrongTides 0 = .ok (.iload_n 1, 1) := by decide +kernel
theorem dX7_wrongTides_1 : decode cX7_wrongTides 1 = .ok (.iconst 1, 1) := by decide +kernel
theorem dX7_wrongTides_2 : decode cX7_wrongTides 2 = .ok (.if_icmp .ge 8, 3) := by decide +kernel
theorem dX7_wrongTides_5 : decode cX7_wrongTides 5 = .ok (.bipush (-4), 2) := by decide +kernel
theorem dX7_wrongTides_7 : decode cX7_wrongTides 7 = .ok (.goto 28, 3) := by decide +kernel
theorem dX7_wrongTides_10 : decode cX7_wrongTides 10 = .ok (.iload_n 1, 1) := by decide +kernel
theorem dX7_wrongTides_11 : decode cX7_wrongTides 11 = .ok (.sipush 200, 3) := by decide +kernel
theorem dX7_wrongTides_14 : decode cX7_wrongTides 14 = .ok (.if_icmp .le 8, 3) := by decide +kernel
theorem dX7_wrongTides_17 : decode cX7_wrongTides 17 = .ok (.bipush (-6), 2) := by decide +kernel
theorem dX7_wrongTides_19 : decode cX7_wrongTides 19 = .ok (.goto 16, 3) := by decide +kernel
theorem dX7_wrongTides_22 : decode cX7_wrongTides 22 = .ok (.aload_n 0, 1) := by decide +kernel
theorem dX7_wrongTides_23 : decode cX7_wrongTides 23 = .ok (.getfield 111, 3) := by decide +kernel
theorem dX7_wrongTides_26 : decode cX7_wrongTides 26 = .ok (.ifCond .ne 8, 3) := by decide +kernel
theorem dX7_wrongTides_29 : decode cX7_wrongTides 29 = .ok (.bipush (-3), 2) := by decide +kernel
theorem dX7_wrongTides_31 : decode cX7_wrongTides 31 = .ok (.goto 4, 3) := by decide +kernel
theorem dX7_wrongTides_34 : decode cX7_wrongTides 34 = .ok (.iconst 0, 1) := by decide +kernel
theorem dX7_wrongTides_35 : decode cX7_wrongTides 35 = .ok (.ireturn, 1) := by decide +kernel
theorem dX7_go_0 : decode cX7_go 0 = .ok (.aload_n 0, 1) := by decide +kernel
theorem dX7_go_1 : decode cX7_go 1 = .ok (.iload_n 1, 1) := by decide +kernel
theorem dX7_go_2 : decode cX7_go 2 = .ok (.invokevirtual 220, 3) := by decide +kernel
theorem dX7_go_5 : decode cX7_go 5 = .ok (.ifCond .ge 13, 3) := by decide +kernel
theorem dX7_go_8 : decode cX7_go 8 = .ok (.aload_n 0, 1) := by decide +kernel
theorem dX7_go_9 : decode cX7_go 9 = .ok (.aload_n 0, 1) := by decide +kernel
theorem dX7_go_10 : decode cX7_go 10 = .ok (.iload_n 1, 1) := by decide +kernel
theorem dX7_go_11 : decode cX7_go 11 = .ok (.invokevirtual 220, 3) := by decide +kernel
theorem dX7_go_14 : decode cX7_go 14 = .ok (.invokevirtual 118, 3) := by decide +kernel
theorem dX7_go_17 : decode cX7_go 17 = .ok (.ireturn, 1) := by decide +kernel
theorem dX7_go_18 : decode cX7_go 18 = .ok (.iconst 0, 1) := by decide +kernel
theorem dX7_go_19 : decode cX7_go 19 = .ok (.istore_n 2, 1) := by decide +kernel
end
section
theorem dX7_go_20 : decode cX7_go 20 = .ok (.iload_n 2, 1) := by decide +kernel
theorem dX7_go_21 : decode cX7_go 21 = .ok (.iload_n 1, 1) := by decide +kernel
theorem dX7_go_22 : decode cX7_go 22 = .ok (.if_icmp .ge 13, 3) := by decide +kernel
theorem dX7_go_25 : decode cX7_go 25 = .ok (.aload_n 0, 1) := by decide +kernel
theorem dX7_go_26 : decode cX7_go 26 = .ok (.invokevirtual 223, 3) := by decide +kernel
theorem dX7_go_29 : decode cX7_go 29 = .ok (.iinc 2 1, 3) := by decide +kernel
theorem dX7_go_32 : decode cX7_go 32 = .ok (.goto (-12), 3) := by decide +kernel
theorem dX7_go_35 : decode cX7_go 35 = .ok (.aload_n 0, 1) := by decide +kernel
theorem dX7_go_36 : decode cX7_go 36 = .ok (.getfield 186, 3) := by decide +kernel
theorem dX7_go_39 : decode cX7_go 39 = .ok (.ireturn, 1) := by decide +kernel
theorem dX7_save_0 : decode cX7_save 0 = .ok (.iconst 0, 1) := by decide +kernel
theorem dX7_save_1 : decode cX7_save 1 = .ok (.istore_n 1, 1) := by decide +kernel
theorem dX7_save_2 : decode cX7_save 2 = .ok (.iload_n 1, 1) := by decide +kernel
theorem dX7_save_3 : decode cX7_save 3 = .ok (.bipush 16, 2) := by decide +kernel
theorem dX7_save_5 : decode cX7_save 5 = .ok (.if_icmp .ge 33, 3) := by decide +kernel
theorem dX7_save_8 : decode cX7_save 8 = .ok (.aload_n 0, 1) := by decide +kernel
theorem dX7_save_9 : decode cX7_save 9 = .ok (.getfield 87, 3) := by decide +kernel
theorem dX7_save_12 : decode cX7_save 12 = .ok (.iload_n 1, 1) := by decide +kernel
theorem dX7_save_13 : decode cX7_save 13 = .ok (.aload_n 0, 1) := by decide +kernel
theorem dX7_save_14 : decode cX7_save 14 = .ok (.getfield 25, 3) := by decide +kernel
theorem dX7_save_17 : decode cX7_save 17 = .ok (.iload_n 1, 1) := by decide +kernel
theorem dX7_save_18 : decode cX7_save 18 = .ok (.iaload, 1) := by decide +kernel
theorem dX7_save_19 : decode cX7_save 19 = .ok (.iastore, 1) := by decide +kernel
theorem dX7_save_20 : decode cX7_save 20 = .ok (.aload_n 0, 1) := by decide +kernel
theorem dX7_save_21 : decode cX7_save 21 = .ok (.getfield 90, 3) := by decide +kernel
theorem dX7_save_24 : decode cX7_save 24 = .ok (.iload_n 1, 1) := by decide +kernel
theorem dX7_save_25 : decode cX7_save 25 = .ok (.aload_n 0, 1) := by decide +kernel
theorem dX7_save_26 : decode cX7_save 26 = .ok (.getfield 28, 3) := by decide +kernel
theorem dX7_save_29 : decode cX7_save 29 = .ok (.iload_n 1, 1) := by decide +kernel
theorem dX7_save_30 : decode cX7_save 30 = .ok (.iaload, 1) := by decide +kernel
theorem dX7_save_31 : decode cX7_save 31 = .ok (.iastore, 1) := by decide +kernel
theorem dX7_save_32 : decode cX7_save 32 = .ok (.iinc 1 1, 3) := by decide +kernel
theorem dX7_save_35 : decode cX7_save 35 = .ok (.goto (-33), 3) := by decide +kernel
theorem dX7_save_38 : decode cX7_save 38 = .ok (.aload_n 0, 1) := by decide +kernel
theorem dX7_save_39 : decode cX7_save 39 = .ok (.aload_n 0, 1) := by decide +kernel
theorem dX7_save_40 : decode cX7_save 40 = .ok (.getfield 186, 3) := by decide +kernel
theorem dX7_save_43 : decode cX7_save 43 = .ok (.putfield 226, 3) := by decide +kernel
theorem dX7_save_46 : decode cX7_save 46 = .ok (.aload_n 0, 1) := by decide +kernel
theorem dX7_save_47 : decode cX7_save 47 = .ok (.aload_n 0, 1) := by decide +kernel
theorem dX7_save_48 : decode cX7_save 48 = .ok (.getfield 194, 3) := by decide +kernel
theorem dX7_save_51 : decode cX7_save 51 = .ok (.putfield 229, 3) := by decide +kernel
theorem dX7_save_54 : decode cX7_save 54 = .ok (.aload_n 0, 1) := by decide +kernel
theorem dX7_save_55 : decode cX7_save 55 = .ok (.aload_n 0, 1) := by decide +kernel
theorem dX7_save_56 : decode cX7_save 56 = .ok (.getfield 203, 3) := by decide +kernel
theorem dX7_save_59 : decode cX7_save 59 = .ok (.putfield 232, 3) := by decide +kernel
theorem dX7_save_62 : decode cX7_save 62 = .ok (.return_, 1) := by decide +kernel
theorem dX7_putBack_0 : decode cX7_putBack 0 = .ok (.iconst 0, 1) := by decide +kernel
theorem dX7_putBack_1 : decode cX7_putBack 1 = .ok (.istore_n 1, 1) := by decide +kernel
theorem dX7_putBack_2 : decode cX7_putBack 2 = .ok (.iload_n 1, 1) := by decide +kernel
theorem dX7_putBack_3 : decode cX7_putBack 3 = .ok (.bipush 16, 2) := by decide +kernel
theorem dX7_putBack_5 : decode cX7_putBack 5 = .ok (.if_icmp .ge 33, 3) := by decide +kernel
theorem dX7_putBack_8 : decode cX7_putBack 8 = .ok (.aload_n 0, 1) := by decide +kernel
theorem dX7_putBack_9 : decode cX7_putBack 9 = .ok (.getfield 25, 3) := by decide +kernel
theorem dX7_putBack_12 : decode cX7_putBack 12 = .ok (.iload_n 1, 1) := by decide +kernel
theorem dX7_putBack_13 : decode cX7_putBack 13 = .ok (.aload_n 0, 1) := by decide +kernel
theorem dX7_putBack_14 : decode cX7_putBack 14 = .ok (.getfield 87, 3) := by decide +kernel
theorem dX7_putBack_17 : decode cX7_putBack 17 = .ok (.iload_n 1, 1) := by decide +kernel
theorem dX7_putBack_18 : decode cX7_putBack 18 = .ok (.iaload, 1) := by decide +kernel
theorem dX7_putBack_19 : decode cX7_putBack 19 = .ok (.iastore, 1) := by decide +kernel
theorem dX7_putBack_20 : decode cX7_putBack 20 = .ok (.aload_n 0, 1) := by decide +kernel
theorem dX7_putBack_21 : decode cX7_putBack 21 = .ok (.getfield 28, 3) := by decide +kernel
theorem dX7_putBack_24 : decode cX7_putBack 24 = .ok (.iload_n 1, 1) := by decide +kernel
theorem dX7_putBack_25 : decode cX7_putBack 25 = .ok (.aload_n 0, 1) := by decide +kernel
theorem dX7_putBack_26 : decode cX7_putBack 26 = .ok (.getfield 90, 3) := by decide +kernel
theorem dX7_putBack_29 : decode cX7_putBack 29 = .ok (.iload_n 1, 1) := by decide +kernel
theorem dX7_putBack_30 : decode cX7_putBack 30 = .ok (.iaload, 1) := by decide +kernel
theorem dX7_putBack_31 : decode cX7_putBack 31 = .ok (.iastore, 1) := by decide +kernel
theorem dX7_putBack_32 : decode cX7_putBack 32 = .ok (.iinc 1 1, 3) := by decide +kernel
theorem dX7_putBack_35 : decode cX7_putBack 35 = .ok (.goto (-33), 3) := by decide +kernel
theorem dX7_putBack_38 : decode cX7_putBack 38 = .ok (.aload_n 0, 1) := by decide +kernel
theorem dX7_putBack_39 : decode cX7_putBack 39 = .ok (.aload_n 0, 1) := by decide +kernel
theorem dX7_putBack_40 : decode cX7_putBack 40 = .ok (.getfield 226, 3) := by decide +kernel
theorem dX7_putBack_43 : decode cX7_putBack 43 = .ok (.putfield 186, 3) := by decide +kernel
theorem dX7_putBack_46 : decode cX7_putBack 46 = .ok (.aload_n 0, 1) := by decide +kernel
theorem dX7_putBack_47 : decode cX7_putBack 47 = .ok (.aload_n 0, 1) := by decide +kernel
theorem dX7_putBack_48 : decode cX7_putBack 48 = .ok (.getfield 229, 3) := by decide +kernel
theorem dX7_putBack_51 : decode cX7_putBack 51 = .ok (.putfield 194, 3) := by decide +kernel
theorem dX7_putBack_54 : decode cX7_putBack 54 = .ok (.aload_n 0, 1) := by decide +kernel
theorem dX7_putBack_55 : decode cX7_putBack 55 = .ok (.aload_n 0, 1) := by decide +kernel
theorem dX7_putBack_56 : decode cX7_putBack 56 = .ok (.getfield 232, 3) := by decide +kernel
theorem dX7_putBack_59 : decode cX7_putBack 59 = .ok (.putfield 203, 3) := by decide +kernel
theorem dX7_putBack_62 : decode cX7_putBack 62 = .ok (.return_, 1) := by decide +kernel
theorem dX7_costOf_0 : decode cX7_costOf 0 = .ok (.aload_n 0, 1) := by decide +kernel
theorem dX7_costOf_1 : decode cX7_costOf 1 = .ok (.invokevirtual 235, 3) := by decide +kernel
theorem dX7_costOf_4 : decode cX7_costOf 4 = .ok (.lconst 0, 1) := by decide +kernel
theorem dX7_costOf_5 : decode cX7_costOf 5 = .ok (.lstore_n 2, 1) := by decide +kernel
theorem dX7_costOf_6 : decode cX7_costOf 6 = .ok (.iconst 0, 1) := by decide +kernel
theorem dX7_costOf_7 : decode cX7_costOf 7 = .ok (.istore 4, 2) := by decide +kernel
theorem dX7_costOf_9 : decode cX7_costOf 9 = .ok (.iload 4, 2) := by decide +kernel
theorem dX7_costOf_11 : decode cX7_costOf 11 = .ok (.iload_n 1, 1) := by decide +kernel
theorem dX7_costOf_12 : decode cX7_costOf 12 = .ok (.if_icmp .ge 21, 3) := by decide +kernel
theorem dX7_costOf_15 : decode cX7_costOf 15 = .ok (.aload_n 0, 1) := by decide +kernel
theorem dX7_costOf_16 : decode cX7_costOf 16 = .ok (.invokevirtual 223, 3) := by decide +kernel
theorem dX7_costOf_19 : decode cX7_costOf 19 = .ok (.lload_n 2, 1) := by decide +kernel
theorem dX7_costOf_20 : decode cX7_costOf 20 = .ok (.aload_n 0, 1) := by decide +kernel
theorem dX7_costOf_21 : decode cX7_costOf 21 = .ok (.invokevirtual 238, 3) := by decide +kernel
theorem dX7_costOf_24 : decode cX7_costOf 24 = .ok (.i2l, 1) := by decide +kernel
theorem dX7_costOf_25 : decode cX7_costOf 25 = .ok (.ladd, 1) := by decide +kernel
theorem dX7_costOf_26 : decode cX7_costOf 26 = .ok (.lstore_n 2, 1) := by decide +kernel
theorem dX7_costOf_27 : decode cX7_costOf 27 = .ok (.iinc 4 1, 3) := by decide +kernel
theorem dX7_costOf_30 : decode cX7_costOf 30 = .ok (.goto (-21), 3) := by decide +kernel
theorem dX7_costOf_33 : decode cX7_costOf 33 = .ok (.aload_n 0, 1) := by decide +kernel
theorem dX7_costOf_34 : decode cX7_costOf 34 = .ok (.invokevirtual 241, 3) := by decide +kernel
theorem dX7_costOf_37 : decode cX7_costOf 37 = .ok (.lload_n 2, 1) := by decide +kernel
theorem dX7_costOf_38 : decode cX7_costOf 38 = .ok (.lreturn, 1) := by decide +kernel
theorem dX7_cost_0 : decode cX7_cost 0 = .ok (.aload_n 0, 1) := by decide +kernel
theorem dX7_cost_1 : decode cX7_cost 1 = .ok (.iload_n 1, 1) := by decide +kernel
theorem dX7_cost_2 : decode cX7_cost 2 = .ok (.invokevirtual 220, 3) := by decide +kernel
theorem dX7_cost_5 : decode cX7_cost 5 = .ok (.ifCond .ge 20, 3) := by decide +kernel
theorem dX7_cost_8 : decode cX7_cost 8 = .ok (.ldc2_w 244, 3) := by decide +kernel
theorem dX7_cost_11 : decode cX7_cost 11 = .ok (.aload_n 0, 1) := by decide +kernel
theorem dX7_cost_12 : decode cX7_cost 12 = .ok (.aload_n 0, 1) := by decide +kernel
theorem dX7_cost_13 : decode cX7_cost 13 = .ok (.iload_n 1, 1) := by decide +kernel
theorem dX7_cost_14 : decode cX7_cost 14 = .ok (.invokevirtual 220, 3) := by decide +kernel
theorem dX7_cost_17 : decode cX7_cost 17 = .ok (.invokevirtual 118, 3) := by decide +kernel
theorem dX7_cost_20 : decode cX7_cost 20 = .ok (.i2l, 1) := by decide +kernel
theorem dX7_cost_21 : decode cX7_cost 21 = .ok (.ladd, 1) := by decide +kernel
theorem dX7_cost_22 : decode cX7_cost 22 = .ok (.goto 8, 3) := by decide +kernel
theorem dX7_cost_25 : decode cX7_cost 25 = .ok (.aload_n 0, 1) := by decide +kernel
theorem dX7_cost_26 : decode cX7_cost 26 = .ok (.iload_n 1, 1) := by decide +kernel
theorem dX7_cost_27 : decode cX7_cost 27 = .ok (.invokevirtual 246, 3) := by decide +kernel
theorem dX7_cost_30 : decode cX7_cost 30 = .ok (.lreturn, 1) := by decide +kernel
theorem dX7_holdsFor_0 : decode cX7_holdsFor 0 = .ok (.aload_n 0, 1) := by decide +kernel
theorem dX7_holdsFor_1 : decode cX7_holdsFor 1 = .ok (.invokevirtual 235, 3) := by decide +kernel
theorem dX7_holdsFor_4 : decode cX7_holdsFor 4 = .ok (.bipush (-9), 2) := by decide +kernel
theorem dX7_holdsFor_6 : decode cX7_holdsFor 6 = .ok (.istore_n 2, 1) := by decide +kernel
theorem dX7_holdsFor_7 : decode cX7_holdsFor 7 = .ok (.iconst 0, 1) := by decide +kernel
theorem dX7_holdsFor_8 : decode cX7_holdsFor 8 = .ok (.istore_n 3, 1) := by decide +kernel
theorem dX7_holdsFor_9 : decode cX7_holdsFor 9 = .ok (.iload_n 3, 1) := by decide +kernel
theorem dX7_holdsFor_10 : decode cX7_holdsFor 10 = .ok (.iload_n 1, 1) := by decide +kernel
theorem dX7_holdsFor_11 : decode cX7_holdsFor 11 = .ok (.if_icmp .ge 32, 3) := by decide +kernel
theorem dX7_holdsFor_14 : decode cX7_holdsFor 14 = .ok (.iload_n 2, 1) := by decide +kernel
theorem dX7_holdsFor_15 : decode cX7_holdsFor 15 = .ok (.ifCond .ge 28, 3) := by decide +kernel
theorem dX7_holdsFor_18 : decode cX7_holdsFor 18 = .ok (.aload_n 0, 1) := by decide +kernel
theorem dX7_holdsFor_19 : decode cX7_holdsFor 19 = .ok (.invokevirtual 223, 3) := by decide +kernel
theorem dX7_holdsFor_22 : decode cX7_holdsFor 22 = .ok (.aload_n 0, 1) := by decide +kernel
theorem dX7_holdsFor_23 : decode cX7_holdsFor 23 = .ok (.iconst 0, 1) := by decide +kernel
theorem dX7_holdsFor_24 : decode cX7_holdsFor 24 = .ok (.invokevirtual 206, 3) := by decide +kernel
theorem dX7_holdsFor_27 : decode cX7_holdsFor 27 = .ok (.ifCond .le 7, 3) := by decide +kernel
theorem dX7_holdsFor_30 : decode cX7_holdsFor 30 = .ok (.iload_n 3, 1) := by decide +kernel
theorem dX7_holdsFor_31 : decode cX7_holdsFor 31 = .ok (.goto 5, 3) := by decide +kernel
theorem dX7_holdsFor_34 : decode cX7_holdsFor 34 = .ok (.bipush (-9), 2) := by decide +kernel
theorem dX7_holdsFor_36 : decode cX7_holdsFor 36 = .ok (.istore_n 2, 1) := by decide +kernel
theorem dX7_holdsFor_37 : decode cX7_holdsFor 37 = .ok (.iinc 3 1, 3) := by decide +kernel
theorem dX7_holdsFor_40 : decode cX7_holdsFor 40 = .ok (.goto (-31), 3) := by decide +kernel
theorem dX7_holdsFor_43 : decode cX7_holdsFor 43 = .ok (.aload_n 0, 1) := by decide +kernel
theorem dX7_holdsFor_44 : decode cX7_holdsFor 44 = .ok (.invokevirtual 241, 3) := by decide +kernel
theorem dX7_holdsFor_47 : decode cX7_holdsFor 47 = .ok (.iload_n 2, 1) := by decide +kernel
theorem dX7_holdsFor_48 : decode cX7_holdsFor 48 = .ok (.ireturn, 1) := by decide +kernel
theorem dX7_holds_0 : decode cX7_holds 0 = .ok (.aload_n 0, 1) := by decide +kernel
theorem dX7_holds_1 : decode cX7_holds 1 = .ok (.iload_n 1, 1) := by decide +kernel
theorem dX7_holds_2 : decode cX7_holds 2 = .ok (.invokevirtual 220, 3) := by decide +kernel
theorem dX7_holds_5 : decode cX7_holds 5 = .ok (.ifCond .ge 15, 3) := by decide +kernel
theorem dX7_holds_8 : decode cX7_holds 8 = .ok (.aload_n 0, 1) := by decide +kernel
theorem dX7_holds_9 : decode cX7_holds 9 = .ok (.aload_n 0, 1) := by decide +kernel
theorem dX7_holds_10 : decode cX7_holds 10 = .ok (.iload_n 1, 1) := by decide +kernel
theorem dX7_holds_11 : decode cX7_holds 11 = .ok (.invokevirtual 220, 3) := by decide +kernel
theorem dX7_holds_14 : decode cX7_holds 14 = .ok (.invokevirtual 118, 3) := by decide +kernel
theorem dX7_holds_17 : decode cX7_holds 17 = .ok (.goto 8, 3) := by decide +kernel
theorem dX7_holds_20 : decode cX7_holds 20 = .ok (.aload_n 0, 1) := by decide +kernel
theorem dX7_holds_21 : decode cX7_holds 21 = .ok (.iload_n 1, 1) := by decide +kernel
theorem dX7_holds_22 : decode cX7_holds 22 = .ok (.invokevirtual 250, 3) := by decide +kernel
theorem dX7_holds_25 : decode cX7_holds 25 = .ok (.ireturn, 1) := by decide +kernel
theorem dX7_alone_0 : decode cX7_alone 0 = .ok (.aload_n 0, 1) := by decide +kernel
theorem dX7_alone_1 : decode cX7_alone 1 = .ok (.iload_n 1, 1) := by decide +kernel
theorem dX7_alone_2 : decode cX7_alone 2 = .ok (.invokevirtual 220, 3) := by decide +kernel
theorem dX7_alone_5 : decode cX7_alone 5 = .ok (.ifCond .ge 13, 3) := by decide +kernel
theorem dX7_alone_8 : decode cX7_alone 8 = .ok (.aload_n 0, 1) := by decide +kernel
theorem dX7_alone_9 : decode cX7_alone 9 = .ok (.aload_n 0, 1) := by decide +kernel
theorem dX7_alone_10 : decode cX7_alone 10 = .ok (.iload_n 1, 1) := by decide +kernel
theorem dX7_alone_11 : decode cX7_alone 11 = .ok (.invokevirtual 220, 3) := by decide +kernel
theorem dX7_alone_14 : decode cX7_alone 14 = .ok (.invokevirtual 118, 3) := by decide +kernel
theorem dX7_alone_17 : decode cX7_alone 17 = .ok (.ireturn, 1) := by decide +kernel
theorem dX7_alone_18 : decode cX7_alone 18 = .ok (.aload_n 0, 1) := by decide +kernel
theorem dX7_alone_19 : decode cX7_alone 19 = .ok (.getfield 170, 3) := by decide +kernel
theorem dX7_alone_22 : decode cX7_alone 22 = .ok (.istore_n 2, 1) := by decide +kernel
theorem dX7_alone_23 : decode cX7_alone 23 = .ok (.aload_n 0, 1) := by decide +kernel
theorem dX7_alone_24 : decode cX7_alone 24 = .ok (.iconst 0, 1) := by decide +kernel
theorem dX7_alone_25 : decode cX7_alone 25 = .ok (.putfield 170, 3) := by decide +kernel
theorem dX7_alone_28 : decode cX7_alone 28 = .ok (.aload_n 0, 1) := by decide +kernel
theorem dX7_alone_29 : decode cX7_alone 29 = .ok (.iload_n 1, 1) := by decide +kernel
theorem dX7_alone_30 : decode cX7_alone 30 = .ok (.invokevirtual 250, 3) := by decide +kernel
theorem dX7_alone_33 : decode cX7_alone 33 = .ok (.istore_n 3, 1) := by decide +kernel
theorem dX7_alone_34 : decode cX7_alone 34 = .ok (.aload_n 0, 1) := by decide +kernel
theorem dX7_alone_35 : decode cX7_alone 35 = .ok (.iload_n 2, 1) := by decide +kernel
theorem dX7_alone_36 : decode cX7_alone 36 = .ok (.putfield 170, 3) := by decide +kernel
theorem dX7_alone_39 : decode cX7_alone 39 = .ok (.iload_n 3, 1) := by decide +kernel
theorem dX7_alone_40 : decode cX7_alone 40 = .ok (.ireturn, 1) := by decide +kernel
theorem dX7_tonsAfter_0 : decode cX7_tonsAfter 0 = .ok (.aload_n 0, 1) := by decide +kernel
theorem dX7_tonsAfter_1 : decode cX7_tonsAfter 1 = .ok (.invokevirtual 235, 3) := by decide +kernel
theorem dX7_tonsAfter_4 : decode cX7_tonsAfter 4 = .ok (.aload_n 0, 1) := by decide +kernel
theorem dX7_tonsAfter_5 : decode cX7_tonsAfter 5 = .ok (.getfield 25, 3) := by decide +kernel
theorem dX7_tonsAfter_8 : decode cX7_tonsAfter 8 = .ok (.iconst 2, 1) := by decide +kernel
theorem dX7_tonsAfter_9 : decode cX7_tonsAfter 9 = .ok (.iload_n 1, 1) := by decide +kernel
theorem dX7_tonsAfter_10 : decode cX7_tonsAfter 10 = .ok (.imul, 1) := by decide +kernel
theorem dX7_tonsAfter_11 : decode cX7_tonsAfter 11 = .ok (.iload_n 2, 1) := by decide +kernel
theorem dX7_tonsAfter_12 : decode cX7_tonsAfter 12 = .ok (.iadd, 1) := by decide +kernel
theorem dX7_tonsAfter_13 : decode cX7_tonsAfter 13 = .ok (.dup2, 1) := by decide +kernel
theorem dX7_tonsAfter_14 : decode cX7_tonsAfter 14 = .ok (.iaload, 1) := by decide +kernel
theorem dX7_tonsAfter_15 : decode cX7_tonsAfter 15 = .ok (.iload_n 3, 1) := by decide +kernel
theorem dX7_tonsAfter_16 : decode cX7_tonsAfter 16 = .ok (.iadd, 1) := by decide +kernel
theorem dX7_tonsAfter_17 : decode cX7_tonsAfter 17 = .ok (.iastore, 1) := by decide +kernel
theorem dX7_tonsAfter_18 : decode cX7_tonsAfter 18 = .ok (.iconst 0, 1) := by decide +kernel
theorem dX7_tonsAfter_19 : decode cX7_tonsAfter 19 = .ok (.istore 6, 2) := by decide +kernel
theorem dX7_tonsAfter_21 : decode cX7_tonsAfter 21 = .ok (.iload 6, 2) := by decide +kernel
theorem dX7_tonsAfter_23 : decode cX7_tonsAfter 23 = .ok (.iload 5, 2) := by decide +kernel
theorem dX7_tonsAfter_25 : decode cX7_tonsAfter 25 = .ok (.if_icmp .ge 23, 3) := by decide +kernel
theorem dX7_tonsAfter_28 : decode cX7_tonsAfter 28 = .ok (.aload_n 0, 1) := by decide +kernel
theorem dX7_tonsAfter_29 : decode cX7_tonsAfter 29 = .ok (.invokevirtual 210, 3) := by decide +kernel
theorem dX7_tonsAfter_32 : decode cX7_tonsAfter 32 = .ok (.aload_n 0, 1) := by decide +kernel
theorem dX7_tonsAfter_33 : decode cX7_tonsAfter 33 = .ok (.dup, 1) := by decide +kernel
theorem dX7_tonsAfter_34 : decode cX7_tonsAfter 34 = .ok (.getfield 186, 3) := by decide +kernel
theorem dX7_tonsAfter_37 : decode cX7_tonsAfter 37 = .ok (.iconst 1, 1) := by decide +kernel
theorem dX7_tonsAfter_38 : decode cX7_tonsAfter 38 = .ok (.iadd, 1) := by decide +kernel
theorem dX7_tonsAfter_39 : decode cX7_tonsAfter 39 = .ok (.putfield 186, 3) := by decide +kernel
theorem dX7_tonsAfter_42 : decode cX7_tonsAfter 42 = .ok (.iinc 6 1, 3) := by decide +kernel
theorem dX7_tonsAfter_45 : decode cX7_tonsAfter 45 = .ok (.goto (-24), 3) := by decide +kernel
theorem dX7_tonsAfter_48 : decode cX7_tonsAfter 48 = .ok (.iconst 0, 1) := by decide +kernel
theorem dX7_tonsAfter_49 : decode cX7_tonsAfter 49 = .ok (.istore 6, 2) := by decide +kernel
theorem dX7_tonsAfter_51 : decode cX7_tonsAfter 51 = .ok (.iconst 0, 1) := by decide +kernel
theorem dX7_tonsAfter_52 : decode cX7_tonsAfter 52 = .ok (.istore 7, 2) := by decide +kernel
theorem dX7_tonsAfter_54 : decode cX7_tonsAfter 54 = .ok (.iload 7, 2) := by decide +kernel
theorem dX7_tonsAfter_56 : decode cX7_tonsAfter 56 = .ok (.aload_n 0, 1) := by decide +kernel
theorem dX7_tonsAfter_57 : decode cX7_tonsAfter 57 = .ok (.getfield 111, 3) := by decide +kernel
theorem dX7_tonsAfter_60 : decode cX7_tonsAfter 60 = .ok (.if_icmp .ge 52, 3) := by decide +kernel
theorem dX7_tonsAfter_63 : decode cX7_tonsAfter 63 = .ok (.iload 6, 2) := by decide +kernel
theorem dX7_tonsAfter_65 : decode cX7_tonsAfter 65 = .ok (.iload 4, 2) := by decide +kernel
theorem dX7_tonsAfter_67 : decode cX7_tonsAfter 67 = .ok (.iload 7, 2) := by decide +kernel
theorem dX7_tonsAfter_69 : decode cX7_tonsAfter 69 = .ok (.ishr, 1) := by decide +kernel
theorem dX7_tonsAfter_70 : decode cX7_tonsAfter 70 = .ok (.iconst 1, 1) := by decide +kernel
theorem dX7_tonsAfter_71 : decode cX7_tonsAfter 71 = .ok (.iand, 1) := by decide +kernel
theorem dX7_tonsAfter_72 : decode cX7_tonsAfter 72 = .ok (.iconst 1, 1) := by decide +kernel
theorem dX7_tonsAfter_73 : decode cX7_tonsAfter 73 = .ok (.if_icmp .ne 29, 3) := by decide +kernel
theorem dX7_tonsAfter_76 : decode cX7_tonsAfter 76 = .ok (.aload_n 0, 1) := by decide +kernel
theorem dX7_tonsAfter_77 : decode cX7_tonsAfter 77 = .ok (.getfield 25, 3) := by decide +kernel
theorem dX7_tonsAfter_80 : decode cX7_tonsAfter 80 = .ok (.iconst 2, 1) := by decide +kernel
theorem dX7_tonsAfter_81 : decode cX7_tonsAfter 81 = .ok (.iload 7, 2) := by decide +kernel
theorem dX7_tonsAfter_83 : decode cX7_tonsAfter 83 = .ok (.imul, 1) := by decide +kernel
theorem dX7_tonsAfter_84 : decode cX7_tonsAfter 84 = .ok (.iload_n 2, 1) := by decide +kernel
theorem dX7_tonsAfter_85 : decode cX7_tonsAfter 85 = .ok (.iadd, 1) := by decide +kernel
theorem dX7_tonsAfter_86 : decode cX7_tonsAfter 86 = .ok (.iaload, 1) := by decide +kernel
theorem dX7_tonsAfter_87 : decode cX7_tonsAfter 87 = .ok (.aload_n 0, 1) := by decide +kernel
theorem dX7_tonsAfter_88 : decode cX7_tonsAfter 88 = .ok (.getfield 28, 3) := by decide +kernel
theorem dX7_tonsAfter_91 : decode cX7_tonsAfter 91 = .ok (.iconst 2, 1) := by decide +kernel
theorem dX7_tonsAfter_92 : decode cX7_tonsAfter 92 = .ok (.iload 7, 2) := by decide +kernel
theorem dX7_tonsAfter_94 : decode cX7_tonsAfter 94 = .ok (.imul, 1) := by decide +kernel
theorem dX7_tonsAfter_95 : decode cX7_tonsAfter 95 = .ok (.iload_n 2, 1) := by decide +kernel
theorem dX7_tonsAfter_96 : decode cX7_tonsAfter 96 = .ok (.iadd, 1) := by decide +kernel
theorem dX7_tonsAfter_97 : decode cX7_tonsAfter 97 = .ok (.iaload, 1) := by decide +kernel
theorem dX7_tonsAfter_98 : decode cX7_tonsAfter 98 = .ok (.iadd, 1) := by decide +kernel
theorem dX7_tonsAfter_99 : decode cX7_tonsAfter 99 = .ok (.goto 4, 3) := by decide +kernel
theorem dX7_tonsAfter_102 : decode cX7_tonsAfter 102 = .ok (.iconst 0, 1) := by decide +kernel
theorem dX7_tonsAfter_103 : decode cX7_tonsAfter 103 = .ok (.iadd, 1) := by decide +kernel
theorem dX7_tonsAfter_104 : decode cX7_tonsAfter 104 = .ok (.istore 6, 2) := by decide +kernel
theorem dX7_tonsAfter_106 : decode cX7_tonsAfter 106 = .ok (.iinc 7 1, 3) := by decide +kernel
theorem dX7_tonsAfter_109 : decode cX7_tonsAfter 109 = .ok (.goto (-55), 3) := by decide +kernel
theorem dX7_tonsAfter_112 : decode cX7_tonsAfter 112 = .ok (.aload_n 0, 1) := by decide +kernel
theorem dX7_tonsAfter_113 : decode cX7_tonsAfter 113 = .ok (.invokevirtual 241, 3) := by decide +kernel
theorem dX7_tonsAfter_116 : decode cX7_tonsAfter 116 = .ok (.iload 6, 2) := by decide +kernel
theorem dX7_tonsAfter_118 : decode cX7_tonsAfter 118 = .ok (.ireturn, 1) := by decide +kernel
theorem dX7_back_0 : decode cX7_back 0 = .ok (.aload_n 0, 1) := by decide +kernel
theorem dX7_back_1 : decode cX7_back 1 = .ok (.iload_n 1, 1) := by decide +kernel
theorem dX7_back_2 : decode cX7_back 2 = .ok (.invokevirtual 126, 3) := by decide +kernel
theorem dX7_back_5 : decode cX7_back 5 = .ok (.ifCond .eq 29, 3) := by decide +kernel
theorem dX7_back_8 : decode cX7_back 8 = .ok (.iload_n 2, 1) := by decide +kernel
theorem dX7_back_9 : decode cX7_back 9 = .ok (.invokestatic 150, 3) := by decide +kernel
theorem dX7_back_12 : decode cX7_back 12 = .ok (.ifCond .eq 22, 3) := by decide +kernel
theorem dX7_back_15 : decode cX7_back 15 = .ok (.iload 4, 2) := by decide +kernel
theorem dX7_back_17 : decode cX7_back 17 = .ok (.i2l, 1) := by decide +kernel
theorem dX7_back_18 : decode cX7_back 18 = .ok (.lconst 0, 1) := by decide +kernel
theorem dX7_back_19 : decode cX7_back 19 = .ok (.iconst 1, 1) := by decide +kernel
theorem dX7_back_20 : decode cX7_back 20 = .ok (.aload_n 0, 1) := by decide +kernel
theorem dX7_back_21 : decode cX7_back 21 = .ok (.getfield 111, 3) := by decide +kernel
theorem dX7_back_24 : decode cX7_back 24 = .ok (.ishl, 1) := by decide +kernel
theorem dX7_back_25 : decode cX7_back 25 = .ok (.iconst 1, 1) := by decide +kernel
theorem dX7_back_26 : decode cX7_back 26 = .ok (.isub, 1) := by decide +kernel
theorem dX7_back_27 : decode cX7_back 27 = .ok (.i2l, 1) := by decide +kernel
theorem dX7_back_28 : decode cX7_back 28 = .ok (.invokestatic 114, 3) := by decide +kernel
theorem dX7_back_31 : decode cX7_back 31 = .ok (.ifCond .ne 12, 3) := by decide +kernel
theorem dX7_back_34 : decode cX7_back 34 = .ok (.ldc 167, 2) := by decide +kernel
theorem dX7_back_36 : decode cX7_back 36 = .ok (.aload_n 0, 1) := by decide +kernel
theorem dX7_back_37 : decode cX7_back 37 = .ok (.iconst (-1), 1) := by decide +kernel
theorem dX7_back_38 : decode cX7_back 38 = .ok (.invokevirtual 118, 3) := by decide +kernel
theorem dX7_back_41 : decode cX7_back 41 = .ok (.iadd, 1) := by decide +kernel
theorem dX7_back_42 : decode cX7_back 42 = .ok (.ireturn, 1) := by decide +kernel
theorem dX7_back_43 : decode cX7_back 43 = .ok (.iload_n 3, 1) := by decide +kernel
theorem dX7_back_44 : decode cX7_back 44 = .ok (.iconst 1, 1) := by decide +kernel
theorem dX7_back_45 : decode cX7_back 45 = .ok (.if_icmp .lt 9, 3) := by decide +kernel
theorem dX7_back_48 : decode cX7_back 48 = .ok (.iload 5, 2) := by decide +kernel
theorem dX7_back_50 : decode cX7_back 50 = .ok (.iconst 1, 1) := by decide +kernel
theorem dX7_back_51 : decode cX7_back 51 = .ok (.if_icmp .ge 13, 3) := by decide +kernel
theorem dX7_back_54 : decode cX7_back 54 = .ok (.ldc 167, 2) := by decide +kernel
theorem dX7_back_56 : decode cX7_back 56 = .ok (.aload_n 0, 1) := by decide +kernel
theorem dX7_back_57 : decode cX7_back 57 = .ok (.bipush (-4), 2) := by decide +kernel
theorem dX7_back_59 : decode cX7_back 59 = .ok (.invokevirtual 118, 3) := by decide +kernel
theorem dX7_back_62 : decode cX7_back 62 = .ok (.iadd, 1) := by decide +kernel
theorem dX7_back_63 : decode cX7_back 63 = .ok (.ireturn, 1) := by decide +kernel
theorem dX7_back_64 : decode cX7_back 64 = .ok (.iload_n 3, 1) := by decide +kernel
theorem dX7_back_65 : decode cX7_back 65 = .ok (.sipush 9999, 3) := by decide +kernel
theorem dX7_back_68 : decode cX7_back 68 = .ok (.if_icmp .gt 11, 3) := by decide +kernel
theorem dX7_back_71 : decode cX7_back 71 = .ok (.iload 5, 2) := by decide +kernel
theorem dX7_back_73 : decode cX7_back 73 = .ok (.sipush 200, 3) := by decide +kernel
theorem dX7_back_76 : decode cX7_back 76 = .ok (.if_icmp .le 13, 3) := by decide +kernel
theorem dX7_back_79 : decode cX7_back 79 = .ok (.ldc 167, 2) := by decide +kernel
theorem dX7_back_81 : decode cX7_back 81 = .ok (.aload_n 0, 1) := by decide +kernel
theorem dX7_back_82 : decode cX7_back 82 = .ok (.bipush (-6), 2) := by decide +kernel
theorem dX7_back_84 : decode cX7_back 84 = .ok (.invokevirtual 118, 3) := by decide +kernel
theorem dX7_back_87 : decode cX7_back 87 = .ok (.iadd, 1) := by decide +kernel
theorem dX7_back_88 : decode cX7_back 88 = .ok (.ireturn, 1) := by decide +kernel
theorem dX7_back_89 : decode cX7_back 89 = .ok (.aload_n 0, 1) := by decide +kernel
theorem dX7_back_90 : decode cX7_back 90 = .ok (.iload_n 1, 1) := by decide +kernel
theorem dX7_back_91 : decode cX7_back 91 = .ok (.iload_n 2, 1) := by decide +kernel
theorem dX7_back_92 : decode cX7_back 92 = .ok (.iload_n 3, 1) := by decide +kernel
theorem dX7_back_93 : decode cX7_back 93 = .ok (.iload 4, 2) := by decide +kernel
theorem dX7_back_95 : decode cX7_back 95 = .ok (.iload 5, 2) := by decide +kernel
theorem dX7_back_97 : decode cX7_back 97 = .ok (.invokevirtual 253, 3) := by decide +kernel
theorem dX7_back_100 : decode cX7_back 100 = .ok (.aload_n 0, 1) := by decide +kernel
theorem dX7_back_101 : decode cX7_back 101 = .ok (.iload_n 1, 1) := by decide +kernel
theorem dX7_back_102 : decode cX7_back 102 = .ok (.iload_n 2, 1) := by decide +kernel
theorem dX7_back_103 : decode cX7_back 103 = .ok (.iconst 0, 1) := by decide +kernel
theorem dX7_back_104 : decode cX7_back 104 = .ok (.iload 4, 2) := by decide +kernel
theorem dX7_back_106 : decode cX7_back 106 = .ok (.iload 5, 2) := by decide +kernel
theorem dX7_back_108 : decode cX7_back 108 = .ok (.invokevirtual 253, 3) := by decide +kernel
theorem dX7_back_111 : decode cX7_back 111 = .ok (.isub, 1) := by decide +kernel
theorem dX7_back_112 : decode cX7_back 112 = .ok (.ireturn, 1) := by decide +kernel
theorem dX7_bestDrop_0 : decode cX7_bestDrop 0 = .ok (.aload_n 0, 1) := by decide +kernel
theorem dX7_bestDrop_1 : decode cX7_bestDrop 1 = .ok (.iload_n 1, 1) := by decide +kernel
theorem dX7_bestDrop_2 : decode cX7_bestDrop 2 = .ok (.invokevirtual 220, 3) := by decide +kernel
theorem dX7_bestDrop_5 : decode cX7_bestDrop 5 = .ok (.ifCond .ge 13, 3) := by decide +kernel
theorem dX7_bestDrop_8 : decode cX7_bestDrop 8 = .ok (.aload_n 0, 1) := by decide +kernel
theorem dX7_bestDrop_9 : decode cX7_bestDrop 9 = .ok (.aload_n 0, 1) := by decide +kernel
theorem dX7_bestDrop_10 : decode cX7_bestDrop 10 = .ok (.iload_n 1, 1) := by decide +kernel
theorem dX7_bestDrop_11 : decode cX7_bestDrop 11 = .ok (.invokevirtual 220, 3) := by decide +kernel
theorem dX7_bestDrop_14 : decode cX7_bestDrop 14 = .ok (.invokevirtual 118, 3) := by decide +kernel
theorem dX7_bestDrop_17 : decode cX7_bestDrop 17 = .ok (.ireturn, 1) := by decide +kernel
theorem dX7_bestDrop_18 : decode cX7_bestDrop 18 = .ok (.aload_n 0, 1) := by decide +kernel
theorem dX7_bestDrop_19 : decode cX7_bestDrop 19 = .ok (.getfield 66, 3) := by decide +kernel
theorem dX7_bestDrop_22 : decode cX7_bestDrop 22 = .ok (.istore_n 2, 1) := by decide +kernel
theorem dX7_bestDrop_23 : decode cX7_bestDrop 23 = .ok (.iconst (-1), 1) := by decide +kernel
theorem dX7_bestDrop_24 : decode cX7_bestDrop 24 = .ok (.istore_n 3, 1) := by decide +kernel
theorem dX7_bestDrop_25 : decode cX7_bestDrop 25 = .ok (.lconst 0, 1) := by decide +kernel
theorem dX7_bestDrop_26 : decode cX7_bestDrop 26 = .ok (.lstore 4, 2) := by decide +kernel
theorem dX7_bestDrop_28 : decode cX7_bestDrop 28 = .ok (.iconst 0, 1) := by decide +kernel
theorem dX7_bestDrop_29 : decode cX7_bestDrop 29 = .ok (.istore 6, 2) := by decide +kernel
theorem dX7_bestDrop_31 : decode cX7_bestDrop 31 = .ok (.iload 6, 2) := by decide +kernel
theorem dX7_bestDrop_33 : decode cX7_bestDrop 33 = .ok (.bipush 8, 2) := by decide +kernel
theorem dX7_bestDrop_35 : decode cX7_bestDrop 35 = .ok (.if_icmp .gt 57, 3) := by decide +kernel
theorem dX7_bestDrop_38 : decode cX7_bestDrop 38 = .ok (.iload 6, 2) := by decide +kernel
theorem dX7_bestDrop_40 : decode cX7_bestDrop 40 = .ok (.bipush 8, 2) := by decide +kernel
theorem dX7_bestDrop_42 : decode cX7_bestDrop 42 = .ok (.if_icmp .eq 12, 3) := by decide +kernel
theorem dX7_bestDrop_45 : decode cX7_bestDrop 45 = .ok (.aload_n 0, 1) := by decide +kernel
theorem dX7_bestDrop_46 : decode cX7_bestDrop 46 = .ok (.iload 6, 2) := by decide +kernel
theorem dX7_bestDrop_48 : decode cX7_bestDrop 48 = .ok (.invokevirtual 126, 3) := by decide +kernel
theorem dX7_bestDrop_51 : decode cX7_bestDrop 51 = .ok (.ifCond .eq 35, 3) := by decide +kernel
theorem dX7_bestDrop_54 : decode cX7_bestDrop 54 = .ok (.aload_n 0, 1) := by decide +kernel
theorem dX7_bestDrop_55 : decode cX7_bestDrop 55 = .ok (.iload 6, 2) := by decide +kernel
theorem dX7_bestDrop_57 : decode cX7_bestDrop 57 = .ok (.putfield 66, 3) := by decide +kernel
theorem dX7_bestDrop_60 : decode cX7_bestDrop 60 = .ok (.aload_n 0, 1) := by decide +kernel
theorem dX7_bestDrop_61 : decode cX7_bestDrop 61 = .ok (.iload_n 1, 1) := by decide +kernel
theorem dX7_bestDrop_62 : decode cX7_bestDrop 62 = .ok (.invokevirtual 246, 3) := by decide +kernel
theorem dX7_bestDrop_65 : decode cX7_bestDrop 65 = .ok (.lstore 7, 2) := by decide +kernel
theorem dX7_bestDrop_67 : decode cX7_bestDrop 67 = .ok (.iload_n 3, 1) := by decide +kernel
theorem dX7_bestDrop_68 : decode cX7_bestDrop 68 = .ok (.ifCond .lt 11, 3) := by decide +kernel
theorem dX7_bestDrop_71 : decode cX7_bestDrop 71 = .ok (.lload 7, 2) := by decide +kernel
theorem dX7_bestDrop_73 : decode cX7_bestDrop 73 = .ok (.lload 4, 2) := by decide +kernel
theorem dX7_bestDrop_75 : decode cX7_bestDrop 75 = .ok (.lcmp, 1) := by decide +kernel
theorem dX7_bestDrop_76 : decode cX7_bestDrop 76 = .ok (.ifCond .ge 10, 3) := by decide +kernel
theorem dX7_bestDrop_79 : decode cX7_bestDrop 79 = .ok (.iload 6, 2) := by decide +kernel
theorem dX7_bestDrop_81 : decode cX7_bestDrop 81 = .ok (.istore_n 3, 1) := by decide +kernel
theorem dX7_bestDrop_82 : decode cX7_bestDrop 82 = .ok (.lload 7, 2) := by decide +kernel
theorem dX7_bestDrop_84 : decode cX7_bestDrop 84 = .ok (.lstore 4, 2) := by decide +kernel
theorem dX7_bestDrop_86 : decode cX7_bestDrop 86 = .ok (.iinc 6 1, 3) := by decide +kernel
theorem dX7_bestDrop_89 : decode cX7_bestDrop 89 = .ok (.goto (-58), 3) := by decide +kernel
theorem dX7_bestDrop_92 : decode cX7_bestDrop 92 = .ok (.aload_n 0, 1) := by decide +kernel
theorem dX7_bestDrop_93 : decode cX7_bestDrop 93 = .ok (.iload_n 2, 1) := by decide +kernel
theorem dX7_bestDrop_94 : decode cX7_bestDrop 94 = .ok (.putfield 66, 3) := by decide +kernel
theorem dX7_bestDrop_97 : decode cX7_bestDrop 97 = .ok (.iload_n 3, 1) := by decide +kernel
theorem dX7_bestDrop_98 : decode cX7_bestDrop 98 = .ok (.ireturn, 1) := by decide +kernel
theorem dX7_bestPlan_0 : decode cX7_bestPlan 0 = .ok (.aload_n 0, 1) := by decide +kernel
theorem dX7_bestPlan_1 : decode cX7_bestPlan 1 = .ok (.iload_n 1, 1) := by decide +kernel
theorem dX7_bestPlan_2 : decode cX7_bestPlan 2 = .ok (.invokevirtual 220, 3) := by decide +kernel
theorem dX7_bestPlan_5 : decode cX7_bestPlan 5 = .ok (.ifCond .ge 13, 3) := by decide +kernel
theorem dX7_bestPlan_8 : decode cX7_bestPlan 8 = .ok (.aload_n 0, 1) := by decide +kernel
theorem dX7_bestPlan_9 : decode cX7_bestPlan 9 = .ok (.aload_n 0, 1) := by decide +kernel
theorem dX7_bestPlan_10 : decode cX7_bestPlan 10 = .ok (.iload_n 1, 1) := by decide +kernel
theorem dX7_bestPlan_11 : decode cX7_bestPlan 11 = .ok (.invokevirtual 220, 3) := by decide +kernel
theorem dX7_bestPlan_14 : decode cX7_bestPlan 14 = .ok (.invokevirtual 118, 3) := by decide +kernel
theorem dX7_bestPlan_17 : decode cX7_bestPlan 17 = .ok (.ireturn, 1) := by decide +kernel
theorem dX7_bestPlan_18 : decode cX7_bestPlan 18 = .ok (.aload_n 0, 1) := by decide +kernel
theorem dX7_bestPlan_19 : decode cX7_bestPlan 19 = .ok (.getfield 173, 3) := by decide +kernel
theorem dX7_bestPlan_22 : decode cX7_bestPlan 22 = .ok (.istore_n 2, 1) := by decide +kernel
theorem dX7_bestPlan_23 : decode cX7_bestPlan 23 = .ok (.iconst (-1), 1) := by decide +kernel
theorem dX7_bestPlan_24 : decode cX7_bestPlan 24 = .ok (.istore_n 3, 1) := by decide +kernel
theorem dX7_bestPlan_25 : decode cX7_bestPlan 25 = .ok (.lconst 0, 1) := by decide +kernel
theorem dX7_bestPlan_26 : decode cX7_bestPlan 26 = .ok (.lstore 4, 2) := by decide +kernel
theorem dX7_bestPlan_28 : decode cX7_bestPlan 28 = .ok (.iconst 0, 1) := by decide +kernel
theorem dX7_bestPlan_29 : decode cX7_bestPlan 29 = .ok (.istore 6, 2) := by decide +kernel
theorem dX7_bestPlan_31 : decode cX7_bestPlan 31 = .ok (.iload 6, 2) := by decide +kernel
theorem dX7_bestPlan_33 : decode cX7_bestPlan 33 = .ok (.iconst 5, 1) := by decide +kernel
theorem dX7_bestPlan_34 : decode cX7_bestPlan 34 = .ok (.if_icmp .ge 41, 3) := by decide +kernel
theorem dX7_bestPlan_37 : decode cX7_bestPlan 37 = .ok (.aload_n 0, 1) := by decide +kernel
theorem dX7_bestPlan_38 : decode cX7_bestPlan 38 = .ok (.iload 6, 2) := by decide +kernel
theorem dX7_bestPlan_40 : decode cX7_bestPlan 40 = .ok (.putfield 173, 3) := by decide +kernel
theorem dX7_bestPlan_43 : decode cX7_bestPlan 43 = .ok (.aload_n 0, 1) := by decide +kernel
theorem dX7_bestPlan_44 : decode cX7_bestPlan 44 = .ok (.iload_n 1, 1) := by decide +kernel
theorem dX7_bestPlan_45 : decode cX7_bestPlan 45 = .ok (.invokevirtual 246, 3) := by decide +kernel
theorem dX7_bestPlan_48 : decode cX7_bestPlan 48 = .ok (.lstore 7, 2) := by decide +kernel
theorem dX7_bestPlan_50 : decode cX7_bestPlan 50 = .ok (.iload_n 3, 1) := by decide +kernel
theorem dX7_bestPlan_51 : decode cX7_bestPlan 51 = .ok (.ifCond .lt 11, 3) := by decide +kernel
theorem dX7_bestPlan_54 : decode cX7_bestPlan 54 = .ok (.lload 7, 2) := by decide +kernel
theorem dX7_bestPlan_56 : decode cX7_bestPlan 56 = .ok (.lload 4, 2) := by decide +kernel
theorem dX7_bestPlan_58 : decode cX7_bestPlan 58 = .ok (.lcmp, 1) := by decide +kernel
theorem dX7_bestPlan_59 : decode cX7_bestPlan 59 = .ok (.ifCond .ge 10, 3) := by decide +kernel
theorem dX7_bestPlan_62 : decode cX7_bestPlan 62 = .ok (.iload 6, 2) := by decide +kernel
theorem dX7_bestPlan_64 : decode cX7_bestPlan 64 = .ok (.istore_n 3, 1) := by decide +kernel
theorem dX7_bestPlan_65 : decode cX7_bestPlan 65 = .ok (.lload 7, 2) := by decide +kernel
theorem dX7_bestPlan_67 : decode cX7_bestPlan 67 = .ok (.lstore 4, 2) := by decide +kernel
theorem dX7_bestPlan_69 : decode cX7_bestPlan 69 = .ok (.iinc 6 1, 3) := by decide +kernel
theorem dX7_bestPlan_72 : decode cX7_bestPlan 72 = .ok (.goto (-41), 3) := by decide +kernel
theorem dX7_bestPlan_75 : decode cX7_bestPlan 75 = .ok (.aload_n 0, 1) := by decide +kernel
theorem dX7_bestPlan_76 : decode cX7_bestPlan 76 = .ok (.iload_n 2, 1) := by decide +kernel
theorem dX7_bestPlan_77 : decode cX7_bestPlan 77 = .ok (.putfield 173, 3) := by decide +kernel
theorem dX7_bestPlan_80 : decode cX7_bestPlan 80 = .ok (.iload_n 3, 1) := by decide +kernel
theorem dX7_bestPlan_81 : decode cX7_bestPlan 81 = .ok (.ireturn, 1) := by decide +kernel
theorem dX7_leastCap_0 : decode cX7_leastCap 0 = .ok (.aload_n 0, 1) := by decide +kernel
theorem dX7_leastCap_1 : decode cX7_leastCap 1 = .ok (.iload_n 1, 1) := by decide +kernel
theorem dX7_leastCap_2 : decode cX7_leastCap 2 = .ok (.invokevirtual 220, 3) := by decide +kernel
theorem dX7_leastCap_5 : decode cX7_leastCap 5 = .ok (.ifCond .ge 13, 3) := by decide +kernel
theorem dX7_leastCap_8 : decode cX7_leastCap 8 = .ok (.aload_n 0, 1) := by decide +kernel
theorem dX7_leastCap_9 : decode cX7_leastCap 9 = .ok (.aload_n 0, 1) := by decide +kernel
theorem dX7_leastCap_10 : decode cX7_leastCap 10 = .ok (.iload_n 1, 1) := by decide +kernel
theorem dX7_leastCap_11 : decode cX7_leastCap 11 = .ok (.invokevirtual 220, 3) := by decide +kernel
theorem dX7_leastCap_14 : decode cX7_leastCap 14 = .ok (.invokevirtual 118, 3) := by decide +kernel
theorem dX7_leastCap_17 : decode cX7_leastCap 17 = .ok (.ireturn, 1) := by decide +kernel
theorem dX7_leastCap_18 : decode cX7_leastCap 18 = .ok (.aload_n 0, 1) := by decide +kernel
theorem dX7_leastCap_19 : decode cX7_leastCap 19 = .ok (.getfield 170, 3) := by decide +kernel
theorem dX7_leastCap_22 : decode cX7_leastCap 22 = .ok (.istore_n 2, 1) := by decide +kernel
theorem dX7_leastCap_23 : decode cX7_leastCap 23 = .ok (.bipush (-9), 2) := by decide +kernel
theorem dX7_leastCap_25 : decode cX7_leastCap 25 = .ok (.istore_n 3, 1) := by decide +kernel
theorem dX7_leastCap_26 : decode cX7_leastCap 26 = .ok (.iconst 0, 1) := by decide +kernel
theorem dX7_leastCap_27 : decode cX7_leastCap 27 = .ok (.istore 4, 2) := by decide +kernel
theorem dX7_leastCap_29 : decode cX7_leastCap 29 = .ok (.iload 4, 2) := by decide +kernel
theorem dX7_leastCap_31 : decode cX7_leastCap 31 = .ok (.sipush 1000, 3) := by decide +kernel
theorem dX7_leastCap_34 : decode cX7_leastCap 34 = .ok (.if_icmp .ge 35, 3) := by decide +kernel
theorem dX7_leastCap_37 : decode cX7_leastCap 37 = .ok (.iload_n 3, 1) := by decide +kernel
theorem dX7_leastCap_38 : decode cX7_leastCap 38 = .ok (.ifCond .ge 31, 3) := by decide +kernel
theorem dX7_leastCap_41 : decode cX7_leastCap 41 = .ok (.aload_n 0, 1) := by decide +kernel
theorem dX7_leastCap_42 : decode cX7_leastCap 42 = .ok (.iload 4, 2) := by decide +kernel
theorem dX7_leastCap_44 : decode cX7_leastCap 44 = .ok (.putfield 170, 3) := by decide +kernel
theorem dX7_leastCap_47 : decode cX7_leastCap 47 = .ok (.aload_n 0, 1) := by decide +kernel
theorem dX7_leastCap_48 : decode cX7_leastCap 48 = .ok (.iload_n 1, 1) := by decide +kernel
theorem dX7_leastCap_49 : decode cX7_leastCap 49 = .ok (.invokevirtual 250, 3) := by decide +kernel
theorem dX7_leastCap_52 : decode cX7_leastCap 52 = .ok (.ifCond .ge 8, 3) := by decide +kernel
theorem dX7_leastCap_55 : decode cX7_leastCap 55 = .ok (.iload 4, 2) := by decide +kernel
theorem dX7_leastCap_57 : decode cX7_leastCap 57 = .ok (.goto 5, 3) := by decide +kernel
theorem dX7_leastCap_60 : decode cX7_leastCap 60 = .ok (.bipush (-9), 2) := by decide +kernel
theorem dX7_leastCap_62 : decode cX7_leastCap 62 = .ok (.istore_n 3, 1) := by decide +kernel
theorem dX7_leastCap_63 : decode cX7_leastCap 63 = .ok (.iinc 4 50, 3) := by decide +kernel
theorem dX7_leastCap_66 : decode cX7_leastCap 66 = .ok (.goto (-37), 3) := by decide +kernel
theorem dX7_leastCap_69 : decode cX7_leastCap 69 = .ok (.aload_n 0, 1) := by decide +kernel
theorem dX7_leastCap_70 : decode cX7_leastCap 70 = .ok (.iload_n 2, 1) := by decide +kernel
theorem dX7_leastCap_71 : decode cX7_leastCap 71 = .ok (.putfield 170, 3) := by decide +kernel
theorem dX7_leastCap_74 : decode cX7_leastCap 74 = .ok (.iload_n 3, 1) := by decide +kernel
theorem dX7_leastCap_75 : decode cX7_leastCap 75 = .ok (.ireturn, 1) := by decide +kernel
theorem dX7_wall_0 : decode cX7_wall 0 = .ok (.aload_n 0, 1) := by decide +kernel
theorem dX7_wall_1 : decode cX7_wall 1 = .ok (.iload_n 1, 1) := by decide +kernel
theorem dX7_wall_2 : decode cX7_wall 2 = .ok (.invokevirtual 220, 3) := by decide +kernel
theorem dX7_wall_5 : decode cX7_wall 5 = .ok (.ifCond .ge 13, 3) := by decide +kernel
theorem dX7_wall_8 : decode cX7_wall 8 = .ok (.aload_n 0, 1) := by decide +kernel
theorem dX7_wall_9 : decode cX7_wall 9 = .ok (.aload_n 0, 1) := by decide +kernel
theorem dX7_wall_10 : decode cX7_wall 10 = .ok (.iload_n 1, 1) := by decide +kernel
theorem dX7_wall_11 : decode cX7_wall 11 = .ok (.invokevirtual 220, 3) := by decide +kernel
theorem dX7_wall_14 : decode cX7_wall 14 = .ok (.invokevirtual 118, 3) := by decide +kernel
theorem dX7_wall_17 : decode cX7_wall 17 = .ok (.ireturn, 1) := by decide +kernel
theorem dX7_wall_18 : decode cX7_wall 18 = .ok (.aload_n 0, 1) := by decide +kernel
theorem dX7_wall_19 : decode cX7_wall 19 = .ok (.iload_n 1, 1) := by decide +kernel
theorem dX7_wall_20 : decode cX7_wall 20 = .ok (.invokevirtual 246, 3) := by decide +kernel
theorem dX7_wall_23 : decode cX7_wall 23 = .ok (.lstore_n 2, 1) := by decide +kernel
theorem dX7_wall_24 : decode cX7_wall 24 = .ok (.bipush (-9), 2) := by decide +kernel
theorem dX7_wall_26 : decode cX7_wall 26 = .ok (.istore 4, 2) := by decide +kernel
theorem dX7_wall_28 : decode cX7_wall 28 = .ok (.iconst 0, 1) := by decide +kernel
theorem dX7_wall_29 : decode cX7_wall 29 = .ok (.istore 5, 2) := by decide +kernel
theorem dX7_wall_31 : decode cX7_wall 31 = .ok (.iload 5, 2) := by decide +kernel
theorem dX7_wall_33 : decode cX7_wall 33 = .ok (.aload_n 0, 1) := by decide +kernel
theorem dX7_wall_34 : decode cX7_wall 34 = .ok (.getfield 132, 3) := by decide +kernel
theorem dX7_wall_37 : decode cX7_wall 37 = .ok (.if_icmp .ge 56, 3) := by decide +kernel
theorem dX7_wall_40 : decode cX7_wall 40 = .ok (.aload_n 0, 1) := by decide +kernel
theorem dX7_wall_41 : decode cX7_wall 41 = .ok (.getfield 46, 3) := by decide +kernel
theorem dX7_wall_44 : decode cX7_wall 44 = .ok (.iload 5, 2) := by decide +kernel
theorem dX7_wall_46 : decode cX7_wall 46 = .ok (.baload, 1) := by decide +kernel
theorem dX7_wall_47 : decode cX7_wall 47 = .ok (.ifCond .ne 40, 3) := by decide +kernel
theorem dX7_wall_50 : decode cX7_wall 50 = .ok (.aload_n 0, 1) := by decide +kernel
theorem dX7_wall_51 : decode cX7_wall 51 = .ok (.getfield 46, 3) := by decide +kernel
theorem dX7_wall_54 : decode cX7_wall 54 = .ok (.iload 5, 2) := by decide +kernel
theorem dX7_wall_56 : decode cX7_wall 56 = .ok (.iconst 1, 1) := by decide +kernel
theorem dX7_wall_57 : decode cX7_wall 57 = .ok (.bastore, 1) := by decide +kernel
theorem dX7_wall_58 : decode cX7_wall 58 = .ok (.aload_n 0, 1) := by decide +kernel
theorem dX7_wall_59 : decode cX7_wall 59 = .ok (.iload_n 1, 1) := by decide +kernel
theorem dX7_wall_60 : decode cX7_wall 60 = .ok (.invokevirtual 246, 3) := by decide +kernel
theorem dX7_wall_63 : decode cX7_wall 63 = .ok (.lstore 6, 2) := by decide +kernel
theorem dX7_wall_65 : decode cX7_wall 65 = .ok (.aload_n 0, 1) := by decide +kernel
theorem dX7_wall_66 : decode cX7_wall 66 = .ok (.getfield 46, 3) := by decide +kernel
theorem dX7_wall_69 : decode cX7_wall 69 = .ok (.iload 5, 2) := by decide +kernel
theorem dX7_wall_71 : decode cX7_wall 71 = .ok (.iconst 0, 1) := by decide +kernel
theorem dX7_wall_72 : decode cX7_wall 72 = .ok (.bastore, 1) := by decide +kernel
theorem dX7_wall_73 : decode cX7_wall 73 = .ok (.lload 6, 2) := by decide +kernel
theorem dX7_wall_75 : decode cX7_wall 75 = .ok (.lload_n 2, 1) := by decide +kernel
theorem dX7_wall_76 : decode cX7_wall 76 = .ok (.lcmp, 1) := by decide +kernel
theorem dX7_wall_77 : decode cX7_wall 77 = .ok (.ifCond .ge 10, 3) := by decide +kernel
theorem dX7_wall_80 : decode cX7_wall 80 = .ok (.iload 5, 2) := by decide +kernel
theorem dX7_wall_82 : decode cX7_wall 82 = .ok (.istore 4, 2) := by decide +kernel
theorem dX7_wall_84 : decode cX7_wall 84 = .ok (.lload 6, 2) := by decide +kernel
theorem dX7_wall_86 : decode cX7_wall 86 = .ok (.lstore_n 2, 1) := by decide +kernel
theorem dX7_wall_87 : decode cX7_wall 87 = .ok (.iinc 5 1, 3) := by decide +kernel
theorem dX7_wall_90 : decode cX7_wall 90 = .ok (.goto (-59), 3) := by decide +kernel
theorem dX7_wall_93 : decode cX7_wall 93 = .ok (.iload 4, 2) := by decide +kernel
theorem dX7_wall_95 : decode cX7_wall 95 = .ok (.ireturn, 1) := by decide +kernel
theorem dX7_settledAfter_0 : decode cX7_settledAfter 0 = .ok (.aload_n 0, 1) := by decide +kernel
theorem dX7_settledAfter_1 : decode cX7_settledAfter 1 = .ok (.invokevirtual 235, 3) := by decide +kernel
theorem dX7_settledAfter_4 : decode cX7_settledAfter 4 = .ok (.aload_n 0, 1) := by decide +kernel
theorem dX7_settledAfter_5 : decode cX7_settledAfter 5 = .ok (.iload_n 2, 1) := by decide +kernel
theorem dX7_settledAfter_6 : decode cX7_settledAfter 6 = .ok (.putfield 81, 3) := by decide +kernel
theorem dX7_settledAfter_9 : decode cX7_settledAfter 9 = .ok (.iconst 0, 1) := by decide +kernel
theorem dX7_settledAfter_10 : decode cX7_settledAfter 10 = .ok (.istore_n 3, 1) := by decide +kernel
theorem dX7_settledAfter_11 : decode cX7_settledAfter 11 = .ok (.iload_n 3, 1) := by decide +kernel
theorem dX7_settledAfter_12 : decode cX7_settledAfter 12 = .ok (.iload_n 1, 1) := by decide +kernel
theorem dX7_settledAfter_13 : decode cX7_settledAfter 13 = .ok (.if_icmp .ge 13, 3) := by decide +kernel
theorem dX7_settledAfter_16 : decode cX7_settledAfter 16 = .ok (.aload_n 0, 1) := by decide +kernel
theorem dX7_settledAfter_17 : decode cX7_settledAfter 17 = .ok (.invokevirtual 223, 3) := by decide +kernel
theorem dX7_settledAfter_20 : decode cX7_settledAfter 20 = .ok (.iinc 3 1, 3) := by decide +kernel
theorem dX7_settledAfter_23 : decode cX7_settledAfter 23 = .ok (.goto (-12), 3) := by decide +kernel
theorem dX7_settledAfter_26 : decode cX7_settledAfter 26 = .ok (.aload_n 0, 1) := by decide +kernel
theorem dX7_settledAfter_27 : decode cX7_settledAfter 27 = .ok (.iconst (-1), 1) := by decide +kernel
theorem dX7_settledAfter_28 : decode cX7_settledAfter 28 = .ok (.putfield 81, 3) := by decide +kernel
theorem dX7_settledAfter_31 : decode cX7_settledAfter 31 = .ok (.iconst 0, 1) := by decide +kernel
theorem dX7_settledAfter_32 : decode cX7_settledAfter 32 = .ok (.istore_n 3, 1) := by decide +kernel
theorem dX7_settledAfter_33 : decode cX7_settledAfter 33 = .ok (.iconst 0, 1) := by decide +kernel
theorem dX7_settledAfter_34 : decode cX7_settledAfter 34 = .ok (.istore 4, 2) := by decide +kernel
theorem dX7_settledAfter_36 : decode cX7_settledAfter 36 = .ok (.iload 4, 2) := by decide +kernel
theorem dX7_settledAfter_38 : decode cX7_settledAfter 38 = .ok (.aload_n 0, 1) := by decide +kernel
theorem dX7_settledAfter_39 : decode cX7_settledAfter 39 = .ok (.getfield 111, 3) := by decide +kernel
theorem dX7_settledAfter_42 : decode cX7_settledAfter 42 = .ok (.if_icmp .ge 18, 3) := by decide +kernel
theorem dX7_settledAfter_45 : decode cX7_settledAfter 45 = .ok (.iload_n 3, 1) := by decide +kernel
theorem dX7_settledAfter_46 : decode cX7_settledAfter 46 = .ok (.aload_n 0, 1) := by decide +kernel
theorem dX7_settledAfter_47 : decode cX7_settledAfter 47 = .ok (.iload 4, 2) := by decide +kernel
theorem dX7_settledAfter_49 : decode cX7_settledAfter 49 = .ok (.invokevirtual 158, 3) := by decide +kernel
theorem dX7_settledAfter_52 : decode cX7_settledAfter 52 = .ok (.iadd, 1) := by decide +kernel
theorem dX7_settledAfter_53 : decode cX7_settledAfter 53 = .ok (.istore_n 3, 1) := by decide +kernel
theorem dX7_settledAfter_54 : decode cX7_settledAfter 54 = .ok (.iinc 4 1, 3) := by decide +kernel
theorem dX7_settledAfter_57 : decode cX7_settledAfter 57 = .ok (.goto (-21), 3) := by decide +kernel
theorem dX7_settledAfter_60 : decode cX7_settledAfter 60 = .ok (.aload_n 0, 1) := by decide +kernel
theorem dX7_settledAfter_61 : decode cX7_settledAfter 61 = .ok (.invokevirtual 241, 3) := by decide +kernel
theorem dX7_settledAfter_64 : decode cX7_settledAfter 64 = .ok (.iload_n 3, 1) := by decide +kernel
theorem dX7_settledAfter_65 : decode cX7_settledAfter 65 = .ok (.ireturn, 1) := by decide +kernel
theorem dX7_share_0 : decode cX7_share 0 = .ok (.iload_n 1, 1) := by decide +kernel
theorem dX7_share_1 : decode cX7_share 1 = .ok (.i2l, 1) := by decide +kernel
theorem dX7_share_2 : decode cX7_share 2 = .ok (.lconst 0, 1) := by decide +kernel
theorem dX7_share_3 : decode cX7_share 3 = .ok (.aload_n 0, 1) := by decide +kernel
theorem dX7_share_4 : decode cX7_share 4 = .ok (.getfield 147, 3) := by decide +kernel
theorem dX7_share_7 : decode cX7_share 7 = .ok (.iconst 1, 1) := by decide +kernel
theorem dX7_share_8 : decode cX7_share 8 = .ok (.isub, 1) := by decide +kernel
theorem dX7_share_9 : decode cX7_share 9 = .ok (.i2l, 1) := by decide +kernel
theorem dX7_share_10 : decode cX7_share 10 = .ok (.invokestatic 114, 3) := by decide +kernel
theorem dX7_share_13 : decode cX7_share 13 = .ok (.ifCond .ne 12, 3) := by decide +kernel
theorem dX7_share_16 : decode cX7_share 16 = .ok (.ldc 167, 2) := by decide +kernel
theorem dX7_share_18 : decode cX7_share 18 = .ok (.aload_n 0, 1) := by decide +kernel
theorem dX7_share_19 : decode cX7_share 19 = .ok (.iconst (-1), 1) := by decide +kernel
theorem dX7_share_20 : decode cX7_share 20 = .ok (.invokevirtual 118, 3) := by decide +kernel
theorem dX7_share_23 : decode cX7_share 23 = .ok (.iadd, 1) := by decide +kernel
theorem dX7_share_24 : decode cX7_share 24 = .ok (.ireturn, 1) := by decide +kernel
theorem dX7_share_25 : decode cX7_share 25 = .ok (.iload_n 2, 1) := by decide +kernel
theorem dX7_share_26 : decode cX7_share 26 = .ok (.iconst 1, 1) := by decide +kernel
theorem dX7_share_27 : decode cX7_share 27 = .ok (.if_icmp .ge 13, 3) := by decide +kernel
theorem dX7_share_30 : decode cX7_share 30 = .ok (.ldc 167, 2) := by decide +kernel
theorem dX7_share_32 : decode cX7_share 32 = .ok (.aload_n 0, 1) := by decide +kernel
theorem dX7_share_33 : decode cX7_share 33 = .ok (.bipush (-4), 2) := by decide +kernel
theorem dX7_share_35 : decode cX7_share 35 = .ok (.invokevirtual 118, 3) := by decide +kernel
theorem dX7_share_38 : decode cX7_share 38 = .ok (.iadd, 1) := by decide +kernel
theorem dX7_share_39 : decode cX7_share 39 = .ok (.ireturn, 1) := by decide +kernel
theorem dX7_share_40 : decode cX7_share 40 = .ok (.iload_n 2, 1) := by decide +kernel
theorem dX7_share_41 : decode cX7_share 41 = .ok (.sipush 200, 3) := by decide +kernel
theorem dX7_share_44 : decode cX7_share 44 = .ok (.if_icmp .le 13, 3) := by decide +kernel
theorem dX7_share_47 : decode cX7_share 47 = .ok (.ldc 167, 2) := by decide +kernel
theorem dX7_share_49 : decode cX7_share 49 = .ok (.aload_n 0, 1) := by decide +kernel
theorem dX7_share_50 : decode cX7_share 50 = .ok (.bipush (-6), 2) := by decide +kernel
theorem dX7_share_52 : decode cX7_share 52 = .ok (.invokevirtual 118, 3) := by decide +kernel
theorem dX7_share_55 : decode cX7_share 55 = .ok (.iadd, 1) := by decide +kernel
theorem dX7_share_56 : decode cX7_share 56 = .ok (.ireturn, 1) := by decide +kernel
theorem dX7_share_57 : decode cX7_share 57 = .ok (.aload_n 0, 1) := by decide +kernel
theorem dX7_share_58 : decode cX7_share 58 = .ok (.iload_n 2, 1) := by decide +kernel
theorem dX7_share_59 : decode cX7_share 59 = .ok (.iconst (-1), 1) := by decide +kernel
theorem dX7_share_60 : decode cX7_share 60 = .ok (.invokevirtual 257, 3) := by decide +kernel
theorem dX7_share_63 : decode cX7_share 63 = .ok (.aload_n 0, 1) := by decide +kernel
theorem dX7_share_64 : decode cX7_share 64 = .ok (.iload_n 2, 1) := by decide +kernel
theorem dX7_share_65 : decode cX7_share 65 = .ok (.iload_n 1, 1) := by decide +kernel
theorem dX7_share_66 : decode cX7_share 66 = .ok (.invokevirtual 257, 3) := by decide +kernel
theorem dX7_share_69 : decode cX7_share 69 = .ok (.isub, 1) := by decide +kernel
theorem dX7_share_70 : decode cX7_share 70 = .ok (.ireturn, 1) := by decide +kernel
theorem dX7_row_0 : decode cX7_row 0 = .ok (.iload_n 1, 1) := by decide +kernel
theorem dX7_row_1 : decode cX7_row 1 = .ok (.ifCond .ge 10, 3) := by decide +kernel
theorem dX7_row_4 : decode cX7_row 4 = .ok (.aload_n 0, 1) := by decide +kernel
theorem dX7_row_5 : decode cX7_row 5 = .ok (.bipush (-4), 2) := by decide +kernel
theorem dX7_row_7 : decode cX7_row 7 = .ok (.invokevirtual 118, 3) := by decide +kernel
theorem dX7_row_10 : decode cX7_row 10 = .ok (.ireturn, 1) := by decide +kernel
theorem dX7_row_11 : decode cX7_row 11 = .ok (.iload_n 1, 1) := by decide +kernel
theorem dX7_row_12 : decode cX7_row 12 = .ok (.bipush 9, 2) := by decide +kernel
theorem dX7_row_14 : decode cX7_row 14 = .ok (.if_icmp .gt 12, 3) := by decide +kernel
theorem dX7_row_17 : decode cX7_row 17 = .ok (.aload_n 0, 1) := by decide +kernel
theorem dX7_row_18 : decode cX7_row 18 = .ok (.getfield 261, 3) := by decide +kernel
theorem dX7_row_21 : decode cX7_row 21 = .ok (.bipush 28, 2) := by decide +kernel
theorem dX7_row_23 : decode cX7_row 23 = .ok (.if_icmp .ne 10, 3) := by decide +kernel
theorem dX7_row_26 : decode cX7_row 26 = .ok (.aload_n 0, 1) := by decide +kernel
theorem dX7_row_27 : decode cX7_row 27 = .ok (.bipush (-6), 2) := by decide +kernel
theorem dX7_row_29 : decode cX7_row 29 = .ok (.invokevirtual 118, 3) := by decide +kernel
theorem dX7_row_32 : decode cX7_row 32 = .ok (.ireturn, 1) := by decide +kernel
theorem dX7_row_33 : decode cX7_row 33 = .ok (.aload_n 0, 1) := by decide +kernel
theorem dX7_row_34 : decode cX7_row 34 = .ok (.getfield 75, 3) := by decide +kernel
theorem dX7_row_37 : decode cX7_row 37 = .ok (.aload_n 0, 1) := by decide +kernel
theorem dX7_row_38 : decode cX7_row 38 = .ok (.getfield 261, 3) := by decide +kernel
theorem dX7_row_41 : decode cX7_row 41 = .ok (.iload_n 1, 1) := by decide +kernel
theorem dX7_row_42 : decode cX7_row 42 = .ok (.iastore, 1) := by decide +kernel
theorem dX7_row_43 : decode cX7_row 43 = .ok (.aload_n 0, 1) := by decide +kernel
theorem dX7_row_44 : decode cX7_row 44 = .ok (.dup, 1) := by decide +kernel
theorem dX7_row_45 : decode cX7_row 45 = .ok (.getfield 261, 3) := by decide +kernel
theorem dX7_row_48 : decode cX7_row 48 = .ok (.iconst 1, 1) := by decide +kernel
theorem dX7_row_49 : decode cX7_row 49 = .ok (.iadd, 1) := by decide +kernel
theorem dX7_row_50 : decode cX7_row 50 = .ok (.putfield 261, 3) := by decide +kernel
theorem dX7_row_53 : decode cX7_row 53 = .ok (.aload_n 0, 1) := by decide +kernel
theorem dX7_row_54 : decode cX7_row 54 = .ok (.getfield 261, 3) := by decide +kernel
theorem dX7_row_57 : decode cX7_row 57 = .ok (.ireturn, 1) := by decide +kernel
theorem dX7_judge_0 : decode cX7_judge 0 = .ok (.iload_n 1, 1) := by decide +kernel
theorem dX7_judge_1 : decode cX7_judge 1 = .ok (.i2l, 1) := by decide +kernel
theorem dX7_judge_2 : decode cX7_judge 2 = .ok (.lconst 0, 1) := by decide +kernel
theorem dX7_judge_3 : decode cX7_judge 3 = .ok (.ldc2_w 264, 3) := by decide +kernel
theorem dX7_judge_6 : decode cX7_judge 6 = .ok (.invokestatic 114, 3) := by decide +kernel
theorem dX7_judge_9 : decode cX7_judge 9 = .ok (.ifCond .ne 10, 3) := by decide +kernel
theorem dX7_judge_12 : decode cX7_judge 12 = .ok (.aload_n 0, 1) := by decide +kernel
theorem dX7_judge_13 : decode cX7_judge 13 = .ok (.bipush (-2), 2) := by decide +kernel
theorem dX7_judge_15 : decode cX7_judge 15 = .ok (.invokevirtual 118, 3) := by decide +kernel
theorem dX7_judge_18 : decode cX7_judge 18 = .ok (.ireturn, 1) := by decide +kernel
theorem dX7_judge_19 : decode cX7_judge 19 = .ok (.iconst 0, 1) := by decide +kernel
theorem dX7_judge_20 : decode cX7_judge 20 = .ok (.istore_n 2, 1) := by decide +kernel
theorem dX7_judge_21 : decode cX7_judge 21 = .ok (.iload_n 2, 1) := by decide +kernel
theorem dX7_judge_22 : decode cX7_judge 22 = .ok (.aload_n 0, 1) := by decide +kernel
theorem dX7_judge_23 : decode cX7_judge 23 = .ok (.getfield 261, 3) := by decide +kernel
theorem dX7_judge_26 : decode cX7_judge 26 = .ok (.if_icmp .ge 39, 3) := by decide +kernel
theorem dX7_judge_29 : decode cX7_judge 29 = .ok (.aload_n 0, 1) := by decide +kernel
theorem dX7_judge_30 : decode cX7_judge 30 = .ok (.getfield 75, 3) := by decide +kernel
theorem dX7_judge_33 : decode cX7_judge 33 = .ok (.iload_n 2, 1) := by decide +kernel
theorem dX7_judge_34 : decode cX7_judge 34 = .ok (.iaload, 1) := by decide +kernel
theorem dX7_judge_35 : decode cX7_judge 35 = .ok (.bipush 9, 2) := by decide +kernel
theorem dX7_judge_37 : decode cX7_judge 37 = .ok (.if_icmp .eq 22, 3) := by decide +kernel
theorem dX7_judge_40 : decode cX7_judge 40 = .ok (.aload_n 0, 1) := by decide +kernel
theorem dX7_judge_41 : decode cX7_judge 41 = .ok (.aload_n 0, 1) := by decide +kernel
theorem dX7_judge_42 : decode cX7_judge 42 = .ok (.getfield 75, 3) := by decide +kernel
theorem dX7_judge_45 : decode cX7_judge 45 = .ok (.iload_n 2, 1) := by decide +kernel
theorem dX7_judge_46 : decode cX7_judge 46 = .ok (.iaload, 1) := by decide +kernel
theorem dX7_judge_47 : decode cX7_judge 47 = .ok (.invokevirtual 126, 3) := by decide +kernel
theorem dX7_judge_50 : decode cX7_judge 50 = .ok (.ifCond .ne 9, 3) := by decide +kernel
theorem dX7_judge_53 : decode cX7_judge 53 = .ok (.aload_n 0, 1) := by decide +kernel
theorem dX7_judge_54 : decode cX7_judge 54 = .ok (.iconst (-1), 1) := by decide +kernel
theorem dX7_judge_55 : decode cX7_judge 55 = .ok (.invokevirtual 118, 3) := by decide +kernel
theorem dX7_judge_58 : decode cX7_judge 58 = .ok (.ireturn, 1) := by decide +kernel
theorem dX7_judge_59 : decode cX7_judge 59 = .ok (.iinc 2 1, 3) := by decide +kernel
theorem dX7_judge_62 : decode cX7_judge 62 = .ok (.goto (-41), 3) := by decide +kernel
theorem dX7_judge_65 : decode cX7_judge 65 = .ok (.aload_n 0, 1) := by decide +kernel
theorem dX7_judge_66 : decode cX7_judge 66 = .ok (.getfield 111, 3) := by decide +kernel
theorem dX7_judge_69 : decode cX7_judge 69 = .ok (.ifCond .ne 10, 3) := by decide +kernel
theorem dX7_judge_72 : decode cX7_judge 72 = .ok (.aload_n 0, 1) := by decide +kernel
theorem dX7_judge_73 : decode cX7_judge 73 = .ok (.bipush (-3), 2) := by decide +kernel
theorem dX7_judge_75 : decode cX7_judge 75 = .ok (.invokevirtual 118, 3) := by decide +kernel
theorem dX7_judge_78 : decode cX7_judge 78 = .ok (.ireturn, 1) := by decide +kernel
theorem dX7_judge_79 : decode cX7_judge 79 = .ok (.aload_n 0, 1) := by decide +kernel
theorem dX7_judge_80 : decode cX7_judge 80 = .ok (.invokevirtual 235, 3) := by decide +kernel
theorem dX7_judge_83 : decode cX7_judge 83 = .ok (.bipush (-9), 2) := by decide +kernel
theorem dX7_judge_85 : decode cX7_judge 85 = .ok (.istore_n 2, 1) := by decide +kernel
theorem dX7_judge_86 : decode cX7_judge 86 = .ok (.iconst 0, 1) := by decide +kernel
theorem dX7_judge_87 : decode cX7_judge 87 = .ok (.istore_n 3, 1) := by decide +kernel
theorem dX7_judge_88 : decode cX7_judge 88 = .ok (.iconst 0, 1) := by decide +kernel
theorem dX7_judge_89 : decode cX7_judge 89 = .ok (.istore 4, 2) := by decide +kernel
theorem dX7_judge_91 : decode cX7_judge 91 = .ok (.iload 4, 2) := by decide +kernel
theorem dX7_judge_93 : decode cX7_judge 93 = .ok (.aload_n 0, 1) := by decide +kernel
theorem dX7_judge_94 : decode cX7_judge 94 = .ok (.getfield 261, 3) := by decide +kernel
theorem dX7_judge_97 : decode cX7_judge 97 = .ok (.if_icmp .ge 88, 3) := by decide +kernel
theorem dX7_judge_100 : decode cX7_judge 100 = .ok (.aload_n 0, 1) := by decide +kernel
theorem dX7_judge_101 : decode cX7_judge 101 = .ok (.invokevirtual 210, 3) := by decide +kernel
theorem dX7_judge_104 : decode cX7_judge 104 = .ok (.aload_n 0, 1) := by decide +kernel
theorem dX7_judge_105 : decode cX7_judge 105 = .ok (.aload_n 0, 1) := by decide +kernel
theorem dX7_judge_106 : decode cX7_judge 106 = .ok (.getfield 75, 3) := by decide +kernel
theorem dX7_judge_109 : decode cX7_judge 109 = .ok (.iload 4, 2) := by decide +kernel
theorem dX7_judge_111 : decode cX7_judge 111 = .ok (.iaload, 1) := by decide +kernel
theorem dX7_judge_112 : decode cX7_judge 112 = .ok (.bipush 9, 2) := by decide +kernel
theorem dX7_judge_114 : decode cX7_judge 114 = .ok (.if_icmp .ne 8, 3) := by decide +kernel
theorem dX7_judge_117 : decode cX7_judge 117 = .ok (.bipush (-9), 2) := by decide +kernel
theorem dX7_judge_119 : decode cX7_judge 119 = .ok (.goto 10, 3) := by decide +kernel
theorem dX7_judge_122 : decode cX7_judge 122 = .ok (.aload_n 0, 1) := by decide +kernel
theorem dX7_judge_123 : decode cX7_judge 123 = .ok (.getfield 75, 3) := by decide +kernel
theorem dX7_judge_126 : decode cX7_judge 126 = .ok (.iload 4, 2) := by decide +kernel
theorem dX7_judge_128 : decode cX7_judge 128 = .ok (.iaload, 1) := by decide +kernel
theorem dX7_judge_129 : decode cX7_judge 129 = .ok (.invokevirtual 216, 3) := by decide +kernel
theorem dX7_judge_132 : decode cX7_judge 132 = .ok (.aload_n 0, 1) := by decide +kernel
theorem dX7_judge_133 : decode cX7_judge 133 = .ok (.dup, 1) := by decide +kernel
theorem dX7_judge_134 : decode cX7_judge 134 = .ok (.getfield 186, 3) := by decide +kernel
theorem dX7_judge_137 : decode cX7_judge 137 = .ok (.iconst 1, 1) := by decide +kernel
theorem dX7_judge_138 : decode cX7_judge 138 = .ok (.iadd, 1) := by decide +kernel
theorem dX7_judge_139 : decode cX7_judge 139 = .ok (.putfield 186, 3) := by decide +kernel
theorem dX7_judge_142 : decode cX7_judge 142 = .ok (.iload_n 3, 1) := by decide +kernel
theorem dX7_judge_143 : decode cX7_judge 143 = .ok (.aload_n 0, 1) := by decide +kernel
theorem dX7_judge_144 : decode cX7_judge 144 = .ok (.invokevirtual 238, 3) := by decide +kernel
theorem dX7_judge_147 : decode cX7_judge 147 = .ok (.iadd, 1) := by decide +kernel
theorem dX7_judge_148 : decode cX7_judge 148 = .ok (.istore_n 3, 1) := by decide +kernel
theorem dX7_judge_149 : decode cX7_judge 149 = .ok (.iload_n 2, 1) := by decide +kernel
theorem dX7_judge_150 : decode cX7_judge 150 = .ok (.ifCond .ge 27, 3) := by decide +kernel
theorem dX7_judge_153 : decode cX7_judge 153 = .ok (.aload_n 0, 1) := by decide +kernel
theorem dX7_judge_154 : decode cX7_judge 154 = .ok (.getfield 75, 3) := by decide +kernel
theorem dX7_judge_157 : decode cX7_judge 157 = .ok (.iload 4, 2) := by decide +kernel
theorem dX7_judge_159 : decode cX7_judge 159 = .ok (.iaload, 1) := by decide +kernel
theorem dX7_judge_160 : decode cX7_judge 160 = .ok (.bipush 9, 2) := by decide +kernel
theorem dX7_judge_162 : decode cX7_judge 162 = .ok (.if_icmp .eq 15, 3) := by decide +kernel
theorem dX7_judge_165 : decode cX7_judge 165 = .ok (.aload_n 0, 1) := by decide +kernel
theorem dX7_judge_166 : decode cX7_judge 166 = .ok (.getfield 197, 3) := by decide +kernel
theorem dX7_judge_169 : decode cX7_judge 169 = .ok (.ifCond .ne 8, 3) := by decide +kernel
theorem dX7_judge_172 : decode cX7_judge 172 = .ok (.iload 4, 2) := by decide +kernel
theorem dX7_judge_174 : decode cX7_judge 174 = .ok (.goto 4, 3) := by decide +kernel
theorem dX7_judge_177 : decode cX7_judge 177 = .ok (.iload_n 2, 1) := by decide +kernel
theorem dX7_judge_178 : decode cX7_judge 178 = .ok (.istore_n 2, 1) := by decide +kernel
theorem dX7_judge_179 : decode cX7_judge 179 = .ok (.iinc 4 1, 3) := by decide +kernel
theorem dX7_judge_182 : decode cX7_judge 182 = .ok (.goto (-91), 3) := by decide +kernel
theorem dX7_judge_185 : decode cX7_judge 185 = .ok (.aload_n 0, 1) := by decide +kernel
theorem dX7_judge_186 : decode cX7_judge 186 = .ok (.iconst 0, 1) := by decide +kernel
theorem dX7_judge_187 : decode cX7_judge 187 = .ok (.invokevirtual 206, 3) := by decide +kernel
theorem dX7_judge_190 : decode cX7_judge 190 = .ok (.istore 4, 2) := by decide +kernel
theorem dX7_judge_192 : decode cX7_judge 192 = .ok (.aload_n 0, 1) := by decide +kernel
theorem dX7_judge_193 : decode cX7_judge 193 = .ok (.iconst 0, 1) := by decide +kernel
theorem dX7_judge_194 : decode cX7_judge 194 = .ok (.putfield 261, 3) := by decide +kernel
theorem dX7_judge_197 : decode cX7_judge 197 = .ok (.aload_n 0, 1) := by decide +kernel
theorem dX7_judge_198 : decode cX7_judge 198 = .ok (.invokevirtual 241, 3) := by decide +kernel
theorem dX7_judge_201 : decode cX7_judge 201 = .ok (.iload_n 1, 1) := by decide +kernel
theorem dX7_judge_202 : decode cX7_judge 202 = .ok (.ifCond .ne 7, 3) := by decide +kernel
theorem dX7_judge_205 : decode cX7_judge 205 = .ok (.iload_n 2, 1) := by decide +kernel
theorem dX7_judge_206 : decode cX7_judge 206 = .ok (.goto 14, 3) := by decide +kernel
theorem dX7_judge_209 : decode cX7_judge 209 = .ok (.iload_n 1, 1) := by decide +kernel
theorem dX7_judge_210 : decode cX7_judge 210 = .ok (.iconst 1, 1) := by decide +kernel
theorem dX7_judge_211 : decode cX7_judge 211 = .ok (.if_icmp .ne 7, 3) := by decide +kernel
theorem dX7_judge_214 : decode cX7_judge 214 = .ok (.iload_n 3, 1) := by decide +kernel
theorem dX7_judge_215 : decode cX7_judge 215 = .ok (.goto 5, 3) := by decide +kernel
theorem dX7_judge_218 : decode cX7_judge 218 = .ok (.iload 4, 2) := by decide +kernel
theorem dX7_judge_220 : decode cX7_judge 220 = .ok (.ireturn, 1) := by decide +kernel
theorem dX7_feed_0 : decode cX7_feed 0 = .ok (.iload_n 1, 1) := by decide +kernel
theorem dX7_feed_1 : decode cX7_feed 1 = .ok (.iconst 1, 1) := by decide +kernel
theorem dX7_feed_2 : decode cX7_feed 2 = .ok (.if_icmp .ge 10, 3) := by decide +kernel
theorem dX7_feed_5 : decode cX7_feed 5 = .ok (.aload_n 0, 1) := by decide +kernel
theorem dX7_feed_6 : decode cX7_feed 6 = .ok (.bipush (-4), 2) := by decide +kernel
theorem dX7_feed_8 : decode cX7_feed 8 = .ok (.invokevirtual 118, 3) := by decide +kernel
theorem dX7_feed_11 : decode cX7_feed 11 = .ok (.ireturn, 1) := by decide +kernel
theorem dX7_feed_12 : decode cX7_feed 12 = .ok (.iload_n 1, 1) := by decide +kernel
theorem dX7_feed_13 : decode cX7_feed 13 = .ok (.bipush 8, 2) := by decide +kernel
theorem dX7_feed_15 : decode cX7_feed 15 = .ok (.if_icmp .gt 14, 3) := by decide +kernel
theorem dX7_feed_18 : decode cX7_feed 18 = .ok (.aload_n 0, 1) := by decide +kernel
theorem dX7_feed_19 : decode cX7_feed 19 = .ok (.getfield 108, 3) := by decide +kernel
theorem dX7_feed_22 : decode cX7_feed 22 = .ok (.iload_n 1, 1) := by decide +kernel
theorem dX7_feed_23 : decode cX7_feed 23 = .ok (.iadd, 1) := by decide +kernel
theorem dX7_feed_24 : decode cX7_feed 24 = .ok (.bipush 96, 2) := by decide +kernel
theorem dX7_feed_26 : decode cX7_feed 26 = .ok (.if_icmp .le 10, 3) := by decide +kernel
theorem dX7_feed_29 : decode cX7_feed 29 = .ok (.aload_n 0, 1) := by decide +kernel
theorem dX7_feed_30 : decode cX7_feed 30 = .ok (.bipush (-6), 2) := by decide +kernel
theorem dX7_feed_32 : decode cX7_feed 32 = .ok (.invokevirtual 118, 3) := by decide +kernel
theorem dX7_feed_35 : decode cX7_feed 35 = .ok (.ireturn, 1) := by decide +kernel
theorem dX7_feed_36 : decode cX7_feed 36 = .ok (.iconst 0, 1) := by decide +kernel
theorem dX7_feed_37 : decode cX7_feed 37 = .ok (.istore 4, 2) := by decide +kernel
theorem dX7_feed_39 : decode cX7_feed 39 = .ok (.iload 4, 2) := by decide +kernel
theorem dX7_feed_41 : decode cX7_feed 41 = .ok (.iload_n 1, 1) := by decide +kernel
theorem dX7_feed_42 : decode cX7_feed 42 = .ok (.if_icmp .ge 40, 3) := by decide +kernel
theorem dX7_feed_45 : decode cX7_feed 45 = .ok (.aload_n 0, 1) := by decide +kernel
theorem dX7_feed_46 : decode cX7_feed 46 = .ok (.getfield 72, 3) := by decide +kernel
theorem dX7_feed_49 : decode cX7_feed 49 = .ok (.aload_n 0, 1) := by decide +kernel
theorem dX7_feed_50 : decode cX7_feed 50 = .ok (.getfield 108, 3) := by decide +kernel
theorem dX7_feed_53 : decode cX7_feed 53 = .ok (.lload_n 2, 1) := by decide +kernel
theorem dX7_feed_54 : decode cX7_feed 54 = .ok (.bipush 8, 2) := by decide +kernel
theorem dX7_feed_56 : decode cX7_feed 56 = .ok (.iload 4, 2) := by decide +kernel
theorem dX7_feed_58 : decode cX7_feed 58 = .ok (.imul, 1) := by decide +kernel
theorem dX7_feed_59 : decode cX7_feed 59 = .ok (.lshr, 1) := by decide +kernel
theorem dX7_feed_60 : decode cX7_feed 60 = .ok (.ldc2_w 266, 3) := by decide +kernel
theorem dX7_feed_63 : decode cX7_feed 63 = .ok (.land, 1) := by decide +kernel
theorem dX7_feed_64 : decode cX7_feed 64 = .ok (.l2i, 1) := by decide +kernel
theorem dX7_feed_65 : decode cX7_feed 65 = .ok (.iastore, 1) := by decide +kernel
theorem dX7_feed_66 : decode cX7_feed 66 = .ok (.aload_n 0, 1) := by decide +kernel
theorem dX7_feed_67 : decode cX7_feed 67 = .ok (.dup, 1) := by decide +kernel
theorem dX7_feed_68 : decode cX7_feed 68 = .ok (.getfield 108, 3) := by decide +kernel
theorem dX7_feed_71 : decode cX7_feed 71 = .ok (.iconst 1, 1) := by decide +kernel
theorem dX7_feed_72 : decode cX7_feed 72 = .ok (.iadd, 1) := by decide +kernel
theorem dX7_feed_73 : decode cX7_feed 73 = .ok (.putfield 108, 3) := by decide +kernel
theorem dX7_feed_76 : decode cX7_feed 76 = .ok (.iinc 4 1, 3) := by decide +kernel
theorem dX7_feed_79 : decode cX7_feed 79 = .ok (.goto (-40), 3) := by decide +kernel
theorem dX7_feed_82 : decode cX7_feed 82 = .ok (.aload_n 0, 1) := by decide +kernel
theorem dX7_feed_83 : decode cX7_feed 83 = .ok (.getfield 108, 3) := by decide +kernel
theorem dX7_feed_86 : decode cX7_feed 86 = .ok (.ireturn, 1) := by decide +kernel
theorem dX7_here_0 : decode cX7_here 0 = .ok (.aload_n 0, 1) := by decide +kernel
theorem dX7_here_1 : decode cX7_here 1 = .ok (.getfield 268, 3) := by decide +kernel
theorem dX7_here_4 : decode cX7_here 4 = .ok (.aload_n 0, 1) := by decide +kernel
theorem dX7_here_5 : decode cX7_here 5 = .ok (.getfield 271, 3) := by decide +kernel
theorem dX7_here_8 : decode cX7_here 8 = .ok (.if_icmp .lt 7, 3) := by decide +kernel
theorem dX7_here_11 : decode cX7_here 11 = .ok (.iconst (-1), 1) := by decide +kernel
theorem dX7_here_12 : decode cX7_here 12 = .ok (.goto 12, 3) := by decide +kernel
theorem dX7_here_15 : decode cX7_here 15 = .ok (.aload_n 0, 1) := by decide +kernel
theorem dX7_here_16 : decode cX7_here 16 = .ok (.getfield 72, 3) := by decide +kernel
theorem dX7_here_19 : decode cX7_here 19 = .ok (.aload_n 0, 1) := by decide +kernel
theorem dX7_here_20 : decode cX7_here 20 = .ok (.getfield 268, 3) := by decide +kernel
theorem dX7_here_23 : decode cX7_here 23 = .ok (.iaload, 1) := by decide +kernel
theorem dX7_here_24 : decode cX7_here 24 = .ok (.ireturn, 1) := by decide +kernel
theorem dX7_takeSign_0 : decode cX7_takeSign 0 = .ok (.aload_n 0, 1) := by decide +kernel
theorem dX7_takeSign_1 : decode cX7_takeSign 1 = .ok (.aload_n 0, 1) := by decide +kernel
theorem dX7_takeSign_2 : decode cX7_takeSign 2 = .ok (.getfield 274, 3) := by decide +kernel
theorem dX7_takeSign_5 : decode cX7_takeSign 5 = .ok (.ifCond .ne 7, 3) := by decide +kernel
theorem dX7_takeSign_8 : decode cX7_takeSign 8 = .ok (.iload_n 1, 1) := by decide +kernel
theorem dX7_takeSign_9 : decode cX7_takeSign 9 = .ok (.ifCond .ne 7, 3) := by decide +kernel
theorem dX7_takeSign_12 : decode cX7_takeSign 12 = .ok (.iconst 1, 1) := by decide +kernel
theorem dX7_takeSign_13 : decode cX7_takeSign 13 = .ok (.goto 4, 3) := by decide +kernel
theorem dX7_takeSign_16 : decode cX7_takeSign 16 = .ok (.iconst 0, 1) := by decide +kernel
theorem dX7_takeSign_17 : decode cX7_takeSign 17 = .ok (.putfield 274, 3) := by decide +kernel
theorem dX7_takeSign_20 : decode cX7_takeSign 20 = .ok (.aload_n 0, 1) := by decide +kernel
theorem dX7_takeSign_21 : decode cX7_takeSign 21 = .ok (.dup, 1) := by decide +kernel
theorem dX7_takeSign_22 : decode cX7_takeSign 22 = .ok (.getfield 268, 3) := by decide +kernel
theorem dX7_takeSign_25 : decode cX7_takeSign 25 = .ok (.aload_n 0, 1) := by decide +kernel
theorem dX7_takeSign_26 : decode cX7_takeSign 26 = .ok (.getfield 274, 3) := by decide +kernel
theorem dX7_takeSign_29 : decode cX7_takeSign 29 = .ok (.ifCond .eq 7, 3) := by decide +kernel
theorem dX7_takeSign_32 : decode cX7_takeSign 32 = .ok (.iconst 0, 1) := by decide +kernel
theorem dX7_takeSign_33 : decode cX7_takeSign 33 = .ok (.goto 4, 3) := by decide +kernel
theorem dX7_takeSign_36 : decode cX7_takeSign 36 = .ok (.iconst 1, 1) := by decide +kernel
theorem dX7_takeSign_37 : decode cX7_takeSign 37 = .ok (.iadd, 1) := by decide +kernel
theorem dX7_takeSign_38 : decode cX7_takeSign 38 = .ok (.putfield 268, 3) := by decide +kernel
theorem dX7_takeSign_41 : decode cX7_takeSign 41 = .ok (.return_, 1) := by decide +kernel
theorem dX7_readDigit_0 : decode cX7_readDigit 0 = .ok (.aload_n 0, 1) := by decide +kernel
theorem dX7_readDigit_1 : decode cX7_readDigit 1 = .ok (.invokevirtual 278, 3) := by decide +kernel
theorem dX7_readDigit_4 : decode cX7_readDigit 4 = .ok (.istore_n 1, 1) := by decide +kernel
theorem dX7_readDigit_5 : decode cX7_readDigit 5 = .ok (.aload_n 0, 1) := by decide +kernel
theorem dX7_readDigit_6 : decode cX7_readDigit 6 = .ok (.iload_n 1, 1) := by decide +kernel
theorem dX7_readDigit_7 : decode cX7_readDigit 7 = .ok (.i2l, 1) := by decide +kernel
theorem dX7_readDigit_8 : decode cX7_readDigit 8 = .ok (.ldc2_w 281, 3) := by decide +kernel
theorem dX7_readDigit_11 : decode cX7_readDigit 11 = .ok (.ldc2_w 283, 3) := by decide +kernel
theorem dX7_readDigit_14 : decode cX7_readDigit 14 = .ok (.invokestatic 114, 3) := by decide +kernel
theorem dX7_readDigit_17 : decode cX7_readDigit 17 = .ok (.invokevirtual 285, 3) := by decide +kernel
theorem dX7_readDigit_20 : decode cX7_readDigit 20 = .ok (.aload_n 0, 1) := by decide +kernel
theorem dX7_readDigit_21 : decode cX7_readDigit 21 = .ok (.getfield 274, 3) := by decide +kernel
theorem dX7_readDigit_24 : decode cX7_readDigit 24 = .ok (.ifCond .eq 7, 3) := by decide +kernel
theorem dX7_readDigit_27 : decode cX7_readDigit 27 = .ok (.iconst 0, 1) := by decide +kernel
theorem dX7_readDigit_28 : decode cX7_readDigit 28 = .ok (.goto 7, 3) := by decide +kernel
theorem dX7_readDigit_31 : decode cX7_readDigit 31 = .ok (.iload_n 1, 1) := by decide +kernel
theorem dX7_readDigit_32 : decode cX7_readDigit 32 = .ok (.bipush 48, 2) := by decide +kernel
theorem dX7_readDigit_34 : decode cX7_readDigit 34 = .ok (.isub, 1) := by decide +kernel
theorem dX7_readDigit_35 : decode cX7_readDigit 35 = .ok (.ireturn, 1) := by decide +kernel
theorem dX7_readNumber_0 : decode cX7_readNumber 0 = .ok (.aload_n 0, 1) := by decide +kernel
theorem dX7_readNumber_1 : decode cX7_readNumber 1 = .ok (.invokevirtual 289, 3) := by decide +kernel
theorem dX7_readNumber_4 : decode cX7_readNumber 4 = .ok (.istore_n 1, 1) := by decide +kernel
theorem dX7_readNumber_5 : decode cX7_readNumber 5 = .ok (.iconst 1, 1) := by decide +kernel
theorem dX7_readNumber_6 : decode cX7_readNumber 6 = .ok (.istore_n 2, 1) := by decide +kernel
theorem dX7_readNumber_7 : decode cX7_readNumber 7 = .ok (.iload_n 2, 1) := by decide +kernel
theorem dX7_readNumber_8 : decode cX7_readNumber 8 = .ok (.iconst 3, 1) := by decide +kernel
theorem dX7_readNumber_9 : decode cX7_readNumber 9 = .ok (.if_icmp .ge 60, 3) := by decide +kernel
theorem dX7_readNumber_12 : decode cX7_readNumber 12 = .ok (.iload_n 1, 1) := by decide +kernel
theorem dX7_readNumber_13 : decode cX7_readNumber 13 = .ok (.ifCond .le 56, 3) := by decide +kernel
theorem dX7_readNumber_16 : decode cX7_readNumber 16 = .ok (.aload_n 0, 1) := by decide +kernel
theorem dX7_readNumber_17 : decode cX7_readNumber 17 = .ok (.getfield 274, 3) := by decide +kernel
theorem dX7_readNumber_20 : decode cX7_readNumber 20 = .ok (.ifCond .ne 49, 3) := by decide +kernel
theorem dX7_readNumber_23 : decode cX7_readNumber 23 = .ok (.aload_n 0, 1) := by decide +kernel
theorem dX7_readNumber_24 : decode cX7_readNumber 24 = .ok (.invokevirtual 278, 3) := by decide +kernel
theorem dX7_readNumber_27 : decode cX7_readNumber 27 = .ok (.i2l, 1) := by decide +kernel
theorem dX7_readNumber_28 : decode cX7_readNumber 28 = .ok (.ldc2_w 281, 3) := by decide +kernel
theorem dX7_readNumber_31 : decode cX7_readNumber 31 = .ok (.ldc2_w 283, 3) := by decide +kernel
theorem dX7_readNumber_34 : decode cX7_readNumber 34 = .ok (.invokestatic 114, 3) := by decide +kernel
theorem dX7_readNumber_37 : decode cX7_readNumber 37 = .ok (.ifCond .eq 32, 3) := by decide +kernel
theorem dX7_readNumber_40 : decode cX7_readNumber 40 = .ok (.bipush 10, 2) := by decide +kernel
theorem dX7_readNumber_42 : decode cX7_readNumber 42 = .ok (.iload_n 1, 1) := by decide +kernel
theorem dX7_readNumber_43 : decode cX7_readNumber 43 = .ok (.imul, 1) := by decide +kernel
theorem dX7_readNumber_44 : decode cX7_readNumber 44 = .ok (.aload_n 0, 1) := by decide +kernel
theorem dX7_readNumber_45 : decode cX7_readNumber 45 = .ok (.invokevirtual 278, 3) := by decide +kernel
theorem dX7_readNumber_48 : decode cX7_readNumber 48 = .ok (.iadd, 1) := by decide +kernel
theorem dX7_readNumber_49 : decode cX7_readNumber 49 = .ok (.bipush 48, 2) := by decide +kernel
theorem dX7_readNumber_51 : decode cX7_readNumber 51 = .ok (.isub, 1) := by decide +kernel
theorem dX7_readNumber_52 : decode cX7_readNumber 52 = .ok (.istore_n 1, 1) := by decide +kernel
theorem dX7_readNumber_53 : decode cX7_readNumber 53 = .ok (.aload_n 0, 1) := by decide +kernel
theorem dX7_readNumber_54 : decode cX7_readNumber 54 = .ok (.dup, 1) := by decide +kernel
theorem dX7_readNumber_55 : decode cX7_readNumber 55 = .ok (.getfield 268, 3) := by decide +kernel
theorem dX7_readNumber_58 : decode cX7_readNumber 58 = .ok (.iconst 1, 1) := by decide +kernel
theorem dX7_readNumber_59 : decode cX7_readNumber 59 = .ok (.iadd, 1) := by decide +kernel
theorem dX7_readNumber_60 : decode cX7_readNumber 60 = .ok (.putfield 268, 3) := by decide +kernel
theorem dX7_readNumber_63 : decode cX7_readNumber 63 = .ok (.iinc 2 1, 3) := by decide +kernel
theorem dX7_readNumber_66 : decode cX7_readNumber 66 = .ok (.goto (-59), 3) := by decide +kernel
theorem dX7_readNumber_69 : decode cX7_readNumber 69 = .ok (.iload_n 1, 1) := by decide +kernel
theorem dX7_readNumber_70 : decode cX7_readNumber 70 = .ok (.ireturn, 1) := by decide +kernel
theorem dX7_readOf_0 : decode cX7_readOf 0 = .ok (.aload_n 0, 1) := by decide +kernel
theorem dX7_readOf_1 : decode cX7_readOf 1 = .ok (.invokevirtual 278, 3) := by decide +kernel
theorem dX7_readOf_4 : decode cX7_readOf 4 = .ok (.istore_n 3, 1) := by decide +kernel
theorem dX7_readOf_5 : decode cX7_readOf 5 = .ok (.aload_n 0, 1) := by decide +kernel
theorem dX7_readOf_6 : decode cX7_readOf 6 = .ok (.iload_n 3, 1) := by decide +kernel
theorem dX7_readOf_7 : decode cX7_readOf 7 = .ok (.iload_n 1, 1) := by decide +kernel
theorem dX7_readOf_8 : decode cX7_readOf 8 = .ok (.if_icmp .eq 8, 3) := by decide +kernel
theorem dX7_readOf_11 : decode cX7_readOf 11 = .ok (.iload_n 3, 1) := by decide +kernel
theorem dX7_readOf_12 : decode cX7_readOf 12 = .ok (.iload_n 2, 1) := by decide +kernel
theorem dX7_readOf_13 : decode cX7_readOf 13 = .ok (.if_icmp .ne 7, 3) := by decide +kernel
theorem dX7_readOf_16 : decode cX7_readOf 16 = .ok (.iconst 1, 1) := by decide +kernel
theorem dX7_readOf_17 : decode cX7_readOf 17 = .ok (.goto 4, 3) := by decide +kernel
theorem dX7_readOf_20 : decode cX7_readOf 20 = .ok (.iconst 0, 1) := by decide +kernel
theorem dX7_readOf_21 : decode cX7_readOf 21 = .ok (.invokevirtual 285, 3) := by decide +kernel
theorem dX7_readOf_24 : decode cX7_readOf 24 = .ok (.iload_n 3, 1) := by decide +kernel
theorem dX7_readOf_25 : decode cX7_readOf 25 = .ok (.iload_n 2, 1) := by decide +kernel
theorem dX7_readOf_26 : decode cX7_readOf 26 = .ok (.if_icmp .ne 7, 3) := by decide +kernel
theorem dX7_readOf_29 : decode cX7_readOf 29 = .ok (.iconst 1, 1) := by decide +kernel
theorem dX7_readOf_30 : decode cX7_readOf 30 = .ok (.goto 4, 3) := by decide +kernel
theorem dX7_readOf_33 : decode cX7_readOf 33 = .ok (.iconst 0, 1) := by decide +kernel
theorem dX7_readOf_34 : decode cX7_readOf 34 = .ok (.ireturn, 1) := by decide +kernel
theorem dX7_readStatement_0 : decode cX7_readStatement 0 = .ok (.aload_n 0, 1) := by decide +kernel
theorem dX7_readStatement_1 : decode cX7_readStatement 1 = .ok (.invokevirtual 278, 3) := by decide +kernel
theorem dX7_readStatement_4 : decode cX7_readStatement 4 = .ok (.istore_n 1, 1) := by decide +kernel
theorem dX7_readStatement_5 : decode cX7_readStatement 5 = .ok (.iconst 5, 1) := by decide +kernel
theorem dX7_readStatement_6 : decode cX7_readStatement 6 = .ok (.aload_n 0, 1) := by decide +kernel
theorem dX7_readStatement_7 : decode cX7_readStatement 7 = .ok (.getfield 292, 3) := by decide +kernel
theorem dX7_readStatement_10 : decode cX7_readStatement 10 = .ok (.imul, 1) := by decide +kernel
theorem dX7_readStatement_11 : decode cX7_readStatement 11 = .ok (.istore_n 2, 1) := by decide +kernel
theorem dX7_readStatement_12 : decode cX7_readStatement 12 = .ok (.aload_n 0, 1) := by decide +kernel
theorem dX7_readStatement_13 : decode cX7_readStatement 13 = .ok (.getfield 93, 3) := by decide +kernel
theorem dX7_readStatement_16 : decode cX7_readStatement 16 = .ok (.aload_n 0, 1) := by decide +kernel
theorem dX7_readStatement_17 : decode cX7_readStatement 17 = .ok (.getfield 292, 3) := by decide +kernel
theorem dX7_readStatement_20 : decode cX7_readStatement 20 = .ok (.aload_n 0, 1) := by decide +kernel
theorem dX7_readStatement_21 : decode cX7_readStatement 21 = .ok (.getfield 268, 3) := by decide +kernel
theorem dX7_readStatement_24 : decode cX7_readStatement 24 = .ok (.iastore, 1) := by decide +kernel
theorem dX7_readStatement_25 : decode cX7_readStatement 25 = .ok (.aload_n 0, 1) := by decide +kernel
theorem dX7_readStatement_26 : decode cX7_readStatement 26 = .ok (.getfield 96, 3) := by decide +kernel
theorem dX7_readStatement_29 : decode cX7_readStatement 29 = .ok (.aload_n 0, 1) := by decide +kernel
theorem dX7_readStatement_30 : decode cX7_readStatement 30 = .ok (.getfield 292, 3) := by decide +kernel
theorem dX7_readStatement_33 : decode cX7_readStatement 33 = .ok (.iload_n 1, 1) := by decide +kernel
theorem dX7_readStatement_34 : decode cX7_readStatement 34 = .ok (.iastore, 1) := by decide +kernel
theorem dX7_readStatement_35 : decode cX7_readStatement 35 = .ok (.aload_n 0, 1) := by decide +kernel
theorem dX7_readStatement_36 : decode cX7_readStatement 36 = .ok (.iload_n 1, 1) := by decide +kernel
theorem dX7_readStatement_37 : decode cX7_readStatement 37 = .ok (.bipush 99, 2) := by decide +kernel
theorem dX7_readStatement_39 : decode cX7_readStatement 39 = .ok (.if_icmp .eq 21, 3) := by decide +kernel
theorem dX7_readStatement_42 : decode cX7_readStatement 42 = .ok (.iload_n 1, 1) := by decide +kernel
theorem dX7_readStatement_43 : decode cX7_readStatement 43 = .ok (.bipush 119, 2) := by decide +kernel
theorem dX7_readStatement_45 : decode cX7_readStatement 45 = .ok (.if_icmp .eq 15, 3) := by decide +kernel
theorem dX7_readStatement_48 : decode cX7_readStatement 48 = .ok (.iload_n 1, 1) := by decide +kernel
theorem dX7_readStatement_49 : decode cX7_readStatement 49 = .ok (.bipush 114, 2) := by decide +kernel
theorem dX7_readStatement_51 : decode cX7_readStatement 51 = .ok (.if_icmp .eq 9, 3) := by decide +kernel
theorem dX7_readStatement_54 : decode cX7_readStatement 54 = .ok (.iload_n 1, 1) := by decide +kernel
theorem dX7_readStatement_55 : decode cX7_readStatement 55 = .ok (.bipush 109, 2) := by decide +kernel
theorem dX7_readStatement_57 : decode cX7_readStatement 57 = .ok (.if_icmp .ne 7, 3) := by decide +kernel
theorem dX7_readStatement_60 : decode cX7_readStatement 60 = .ok (.iconst 1, 1) := by decide +kernel
theorem dX7_readStatement_61 : decode cX7_readStatement 61 = .ok (.goto 4, 3) := by decide +kernel
theorem dX7_readStatement_64 : decode cX7_readStatement 64 = .ok (.iconst 0, 1) := by decide +kernel
theorem dX7_readStatement_65 : decode cX7_readStatement 65 = .ok (.invokevirtual 285, 3) := by decide +kernel
theorem dX7_readStatement_68 : decode cX7_readStatement 68 = .ok (.aload_n 0, 1) := by decide +kernel
end
section
theorem dX7_readStatement_69 : decode cX7_readStatement 69 = .ok (.getfield 274, 3) := by decide +kernel
theorem dX7_readStatement_72 : decode cX7_readStatement 72 = .ok (.ifCond .ne 60, 3) := by decide +kernel
theorem dX7_readStatement_75 : decode cX7_readStatement 75 = .ok (.iload_n 1, 1) := by decide +kernel
theorem dX7_readStatement_76 : decode cX7_readStatement 76 = .ok (.bipush 99, 2) := by decide +kernel
theorem dX7_readStatement_78 : decode cX7_readStatement 78 = .ok (.if_icmp .ne 54, 3) := by decide +kernel
theorem dX7_readStatement_81 : decode cX7_readStatement 81 = .ok (.aload_n 0, 1) := by decide +kernel
theorem dX7_readStatement_82 : decode cX7_readStatement 82 = .ok (.getfield 99, 3) := by decide +kernel
theorem dX7_readStatement_85 : decode cX7_readStatement 85 = .ok (.iload_n 2, 1) := by decide +kernel
theorem dX7_readStatement_86 : decode cX7_readStatement 86 = .ok (.aload_n 0, 1) := by decide +kernel
theorem dX7_readStatement_87 : decode cX7_readStatement 87 = .ok (.invokevirtual 295, 3) := by decide +kernel
theorem dX7_readStatement_90 : decode cX7_readStatement 90 = .ok (.iastore, 1) := by decide +kernel
theorem dX7_readStatement_91 : decode cX7_readStatement 91 = .ok (.aload_n 0, 1) := by decide +kernel
theorem dX7_readStatement_92 : decode cX7_readStatement 92 = .ok (.aload_n 0, 1) := by decide +kernel
theorem dX7_readStatement_93 : decode cX7_readStatement 93 = .ok (.invokevirtual 278, 3) := by decide +kernel
theorem dX7_readStatement_96 : decode cX7_readStatement 96 = .ok (.bipush 44, 2) := by decide +kernel
theorem dX7_readStatement_98 : decode cX7_readStatement 98 = .ok (.if_icmp .ne 7, 3) := by decide +kernel
theorem dX7_readStatement_101 : decode cX7_readStatement 101 = .ok (.iconst 1, 1) := by decide +kernel
theorem dX7_readStatement_102 : decode cX7_readStatement 102 = .ok (.goto 4, 3) := by decide +kernel
theorem dX7_readStatement_105 : decode cX7_readStatement 105 = .ok (.iconst 0, 1) := by decide +kernel
theorem dX7_readStatement_106 : decode cX7_readStatement 106 = .ok (.invokevirtual 285, 3) := by decide +kernel
theorem dX7_readStatement_109 : decode cX7_readStatement 109 = .ok (.aload_n 0, 1) := by decide +kernel
theorem dX7_readStatement_110 : decode cX7_readStatement 110 = .ok (.getfield 99, 3) := by decide +kernel
theorem dX7_readStatement_113 : decode cX7_readStatement 113 = .ok (.iload_n 2, 1) := by decide +kernel
theorem dX7_readStatement_114 : decode cX7_readStatement 114 = .ok (.iconst 1, 1) := by decide +kernel
theorem dX7_readStatement_115 : decode cX7_readStatement 115 = .ok (.iadd, 1) := by decide +kernel
theorem dX7_readStatement_116 : decode cX7_readStatement 116 = .ok (.aload_n 0, 1) := by decide +kernel
theorem dX7_readStatement_117 : decode cX7_readStatement 117 = .ok (.getfield 274, 3) := by decide +kernel
theorem dX7_readStatement_120 : decode cX7_readStatement 120 = .ok (.ifCond .eq 7, 3) := by decide +kernel
theorem dX7_readStatement_123 : decode cX7_readStatement 123 = .ok (.iconst 0, 1) := by decide +kernel
theorem dX7_readStatement_124 : decode cX7_readStatement 124 = .ok (.goto 7, 3) := by decide +kernel
theorem dX7_readStatement_127 : decode cX7_readStatement 127 = .ok (.aload_n 0, 1) := by decide +kernel
theorem dX7_readStatement_128 : decode cX7_readStatement 128 = .ok (.invokevirtual 295, 3) := by decide +kernel
theorem dX7_readStatement_131 : decode cX7_readStatement 131 = .ok (.iastore, 1) := by decide +kernel
theorem dX7_readStatement_132 : decode cX7_readStatement 132 = .ok (.aload_n 0, 1) := by decide +kernel
theorem dX7_readStatement_133 : decode cX7_readStatement 133 = .ok (.getfield 274, 3) := by decide +kernel
theorem dX7_readStatement_136 : decode cX7_readStatement 136 = .ok (.ifCond .ne 119, 3) := by decide +kernel
theorem dX7_readStatement_139 : decode cX7_readStatement 139 = .ok (.iload_n 1, 1) := by decide +kernel
theorem dX7_readStatement_140 : decode cX7_readStatement 140 = .ok (.bipush 119, 2) := by decide +kernel
theorem dX7_readStatement_142 : decode cX7_readStatement 142 = .ok (.if_icmp .ne 113, 3) := by decide +kernel
theorem dX7_readStatement_145 : decode cX7_readStatement 145 = .ok (.aload_n 0, 1) := by decide +kernel
theorem dX7_readStatement_146 : decode cX7_readStatement 146 = .ok (.getfield 99, 3) := by decide +kernel
theorem dX7_readStatement_149 : decode cX7_readStatement 149 = .ok (.iload_n 2, 1) := by decide +kernel
theorem dX7_readStatement_150 : decode cX7_readStatement 150 = .ok (.aload_n 0, 1) := by decide +kernel
theorem dX7_readStatement_151 : decode cX7_readStatement 151 = .ok (.invokevirtual 289, 3) := by decide +kernel
theorem dX7_readStatement_154 : decode cX7_readStatement 154 = .ok (.iastore, 1) := by decide +kernel
theorem dX7_readStatement_155 : decode cX7_readStatement 155 = .ok (.aload_n 0, 1) := by decide +kernel
theorem dX7_readStatement_156 : decode cX7_readStatement 156 = .ok (.getfield 99, 3) := by decide +kernel
theorem dX7_readStatement_159 : decode cX7_readStatement 159 = .ok (.iload_n 2, 1) := by decide +kernel
theorem dX7_readStatement_160 : decode cX7_readStatement 160 = .ok (.iconst 1, 1) := by decide +kernel
theorem dX7_readStatement_161 : decode cX7_readStatement 161 = .ok (.iadd, 1) := by decide +kernel
theorem dX7_readStatement_162 : decode cX7_readStatement 162 = .ok (.aload_n 0, 1) := by decide +kernel
theorem dX7_readStatement_163 : decode cX7_readStatement 163 = .ok (.getfield 274, 3) := by decide +kernel
theorem dX7_readStatement_166 : decode cX7_readStatement 166 = .ok (.ifCond .eq 7, 3) := by decide +kernel
theorem dX7_readStatement_169 : decode cX7_readStatement 169 = .ok (.iconst 0, 1) := by decide +kernel
theorem dX7_readStatement_170 : decode cX7_readStatement 170 = .ok (.goto 7, 3) := by decide +kernel
theorem dX7_readStatement_173 : decode cX7_readStatement 173 = .ok (.aload_n 0, 1) := by decide +kernel
theorem dX7_readStatement_174 : decode cX7_readStatement 174 = .ok (.invokevirtual 289, 3) := by decide +kernel
theorem dX7_readStatement_177 : decode cX7_readStatement 177 = .ok (.iastore, 1) := by decide +kernel
theorem dX7_readStatement_178 : decode cX7_readStatement 178 = .ok (.aload_n 0, 1) := by decide +kernel
theorem dX7_readStatement_179 : decode cX7_readStatement 179 = .ok (.getfield 99, 3) := by decide +kernel
theorem dX7_readStatement_182 : decode cX7_readStatement 182 = .ok (.iload_n 2, 1) := by decide +kernel
theorem dX7_readStatement_183 : decode cX7_readStatement 183 = .ok (.iconst 2, 1) := by decide +kernel
theorem dX7_readStatement_184 : decode cX7_readStatement 184 = .ok (.iadd, 1) := by decide +kernel
theorem dX7_readStatement_185 : decode cX7_readStatement 185 = .ok (.aload_n 0, 1) := by decide +kernel
theorem dX7_readStatement_186 : decode cX7_readStatement 186 = .ok (.getfield 274, 3) := by decide +kernel
theorem dX7_readStatement_189 : decode cX7_readStatement 189 = .ok (.ifCond .eq 7, 3) := by decide +kernel
theorem dX7_readStatement_192 : decode cX7_readStatement 192 = .ok (.iconst 0, 1) := by decide +kernel
theorem dX7_readStatement_193 : decode cX7_readStatement 193 = .ok (.goto 11, 3) := by decide +kernel
theorem dX7_readStatement_196 : decode cX7_readStatement 196 = .ok (.aload_n 0, 1) := by decide +kernel
theorem dX7_readStatement_197 : decode cX7_readStatement 197 = .ok (.bipush 115, 2) := by decide +kernel
theorem dX7_readStatement_199 : decode cX7_readStatement 199 = .ok (.bipush 110, 2) := by decide +kernel
theorem dX7_readStatement_201 : decode cX7_readStatement 201 = .ok (.invokevirtual 298, 3) := by decide +kernel
theorem dX7_readStatement_204 : decode cX7_readStatement 204 = .ok (.iastore, 1) := by decide +kernel
theorem dX7_readStatement_205 : decode cX7_readStatement 205 = .ok (.aload_n 0, 1) := by decide +kernel
theorem dX7_readStatement_206 : decode cX7_readStatement 206 = .ok (.getfield 99, 3) := by decide +kernel
theorem dX7_readStatement_209 : decode cX7_readStatement 209 = .ok (.iload_n 2, 1) := by decide +kernel
theorem dX7_readStatement_210 : decode cX7_readStatement 210 = .ok (.iconst 3, 1) := by decide +kernel
theorem dX7_readStatement_211 : decode cX7_readStatement 211 = .ok (.iadd, 1) := by decide +kernel
theorem dX7_readStatement_212 : decode cX7_readStatement 212 = .ok (.aload_n 0, 1) := by decide +kernel
theorem dX7_readStatement_213 : decode cX7_readStatement 213 = .ok (.getfield 274, 3) := by decide +kernel
theorem dX7_readStatement_216 : decode cX7_readStatement 216 = .ok (.ifCond .eq 7, 3) := by decide +kernel
theorem dX7_readStatement_219 : decode cX7_readStatement 219 = .ok (.iconst 0, 1) := by decide +kernel
theorem dX7_readStatement_220 : decode cX7_readStatement 220 = .ok (.goto 11, 3) := by decide +kernel
theorem dX7_readStatement_223 : decode cX7_readStatement 223 = .ok (.aload_n 0, 1) := by decide +kernel
theorem dX7_readStatement_224 : decode cX7_readStatement 224 = .ok (.bipush 83, 2) := by decide +kernel
theorem dX7_readStatement_226 : decode cX7_readStatement 226 = .ok (.bipush 77, 2) := by decide +kernel
theorem dX7_readStatement_228 : decode cX7_readStatement 228 = .ok (.invokevirtual 298, 3) := by decide +kernel
theorem dX7_readStatement_231 : decode cX7_readStatement 231 = .ok (.iastore, 1) := by decide +kernel
theorem dX7_readStatement_232 : decode cX7_readStatement 232 = .ok (.aload_n 0, 1) := by decide +kernel
theorem dX7_readStatement_233 : decode cX7_readStatement 233 = .ok (.getfield 99, 3) := by decide +kernel
theorem dX7_readStatement_236 : decode cX7_readStatement 236 = .ok (.iload_n 2, 1) := by decide +kernel
theorem dX7_readStatement_237 : decode cX7_readStatement 237 = .ok (.iconst 4, 1) := by decide +kernel
theorem dX7_readStatement_238 : decode cX7_readStatement 238 = .ok (.iadd, 1) := by decide +kernel
theorem dX7_readStatement_239 : decode cX7_readStatement 239 = .ok (.aload_n 0, 1) := by decide +kernel
theorem dX7_readStatement_240 : decode cX7_readStatement 240 = .ok (.getfield 274, 3) := by decide +kernel
theorem dX7_readStatement_243 : decode cX7_readStatement 243 = .ok (.ifCond .eq 7, 3) := by decide +kernel
theorem dX7_readStatement_246 : decode cX7_readStatement 246 = .ok (.iconst 0, 1) := by decide +kernel
theorem dX7_readStatement_247 : decode cX7_readStatement 247 = .ok (.goto 7, 3) := by decide +kernel
theorem dX7_readStatement_250 : decode cX7_readStatement 250 = .ok (.aload_n 0, 1) := by decide +kernel
theorem dX7_readStatement_251 : decode cX7_readStatement 251 = .ok (.invokevirtual 295, 3) := by decide +kernel
theorem dX7_readStatement_254 : decode cX7_readStatement 254 = .ok (.iastore, 1) := by decide +kernel
theorem dX7_readStatement_255 : decode cX7_readStatement 255 = .ok (.aload_n 0, 1) := by decide +kernel
theorem dX7_readStatement_256 : decode cX7_readStatement 256 = .ok (.getfield 274, 3) := by decide +kernel
theorem dX7_readStatement_259 : decode cX7_readStatement 259 = .ok (.ifCond .ne 69, 3) := by decide +kernel
theorem dX7_readStatement_262 : decode cX7_readStatement 262 = .ok (.iload_n 1, 1) := by decide +kernel
theorem dX7_readStatement_263 : decode cX7_readStatement 263 = .ok (.bipush 114, 2) := by decide +kernel
theorem dX7_readStatement_265 : decode cX7_readStatement 265 = .ok (.if_icmp .ne 63, 3) := by decide +kernel
theorem dX7_readStatement_268 : decode cX7_readStatement 268 = .ok (.aload_n 0, 1) := by decide +kernel
theorem dX7_readStatement_269 : decode cX7_readStatement 269 = .ok (.getfield 99, 3) := by decide +kernel
theorem dX7_readStatement_272 : decode cX7_readStatement 272 = .ok (.iload_n 2, 1) := by decide +kernel
theorem dX7_readStatement_273 : decode cX7_readStatement 273 = .ok (.aload_n 0, 1) := by decide +kernel
theorem dX7_readStatement_274 : decode cX7_readStatement 274 = .ok (.invokevirtual 289, 3) := by decide +kernel
theorem dX7_readStatement_277 : decode cX7_readStatement 277 = .ok (.iastore, 1) := by decide +kernel
theorem dX7_readStatement_278 : decode cX7_readStatement 278 = .ok (.aload_n 0, 1) := by decide +kernel
theorem dX7_readStatement_279 : decode cX7_readStatement 279 = .ok (.getfield 99, 3) := by decide +kernel
theorem dX7_readStatement_282 : decode cX7_readStatement 282 = .ok (.iload_n 2, 1) := by decide +kernel
theorem dX7_readStatement_283 : decode cX7_readStatement 283 = .ok (.iconst 1, 1) := by decide +kernel
theorem dX7_readStatement_284 : decode cX7_readStatement 284 = .ok (.iadd, 1) := by decide +kernel
theorem dX7_readStatement_285 : decode cX7_readStatement 285 = .ok (.aload_n 0, 1) := by decide +kernel
theorem dX7_readStatement_286 : decode cX7_readStatement 286 = .ok (.getfield 274, 3) := by decide +kernel
theorem dX7_readStatement_289 : decode cX7_readStatement 289 = .ok (.ifCond .eq 7, 3) := by decide +kernel
theorem dX7_readStatement_292 : decode cX7_readStatement 292 = .ok (.iconst 0, 1) := by decide +kernel
theorem dX7_readStatement_293 : decode cX7_readStatement 293 = .ok (.goto 11, 3) := by decide +kernel
theorem dX7_readStatement_296 : decode cX7_readStatement 296 = .ok (.aload_n 0, 1) := by decide +kernel
theorem dX7_readStatement_297 : decode cX7_readStatement 297 = .ok (.bipush 83, 2) := by decide +kernel
theorem dX7_readStatement_299 : decode cX7_readStatement 299 = .ok (.bipush 77, 2) := by decide +kernel
theorem dX7_readStatement_301 : decode cX7_readStatement 301 = .ok (.invokevirtual 298, 3) := by decide +kernel
theorem dX7_readStatement_304 : decode cX7_readStatement 304 = .ok (.iastore, 1) := by decide +kernel
theorem dX7_readStatement_305 : decode cX7_readStatement 305 = .ok (.aload_n 0, 1) := by decide +kernel
theorem dX7_readStatement_306 : decode cX7_readStatement 306 = .ok (.getfield 99, 3) := by decide +kernel
theorem dX7_readStatement_309 : decode cX7_readStatement 309 = .ok (.iload_n 2, 1) := by decide +kernel
theorem dX7_readStatement_310 : decode cX7_readStatement 310 = .ok (.iconst 2, 1) := by decide +kernel
theorem dX7_readStatement_311 : decode cX7_readStatement 311 = .ok (.iadd, 1) := by decide +kernel
theorem dX7_readStatement_312 : decode cX7_readStatement 312 = .ok (.aload_n 0, 1) := by decide +kernel
theorem dX7_readStatement_313 : decode cX7_readStatement 313 = .ok (.getfield 274, 3) := by decide +kernel
theorem dX7_readStatement_316 : decode cX7_readStatement 316 = .ok (.ifCond .eq 7, 3) := by decide +kernel
theorem dX7_readStatement_319 : decode cX7_readStatement 319 = .ok (.iconst 0, 1) := by decide +kernel
theorem dX7_readStatement_320 : decode cX7_readStatement 320 = .ok (.goto 7, 3) := by decide +kernel
theorem dX7_readStatement_323 : decode cX7_readStatement 323 = .ok (.aload_n 0, 1) := by decide +kernel
theorem dX7_readStatement_324 : decode cX7_readStatement 324 = .ok (.invokevirtual 295, 3) := by decide +kernel
theorem dX7_readStatement_327 : decode cX7_readStatement 327 = .ok (.iastore, 1) := by decide +kernel
theorem dX7_readStatement_328 : decode cX7_readStatement 328 = .ok (.aload_n 0, 1) := by decide +kernel
theorem dX7_readStatement_329 : decode cX7_readStatement 329 = .ok (.getfield 274, 3) := by decide +kernel
theorem dX7_readStatement_332 : decode cX7_readStatement 332 = .ok (.ifCond .ne 111, 3) := by decide +kernel
theorem dX7_readStatement_335 : decode cX7_readStatement 335 = .ok (.iload_n 1, 1) := by decide +kernel
theorem dX7_readStatement_336 : decode cX7_readStatement 336 = .ok (.bipush 109, 2) := by decide +kernel
theorem dX7_readStatement_338 : decode cX7_readStatement 338 = .ok (.if_icmp .ne 105, 3) := by decide +kernel
theorem dX7_readStatement_341 : decode cX7_readStatement 341 = .ok (.aload_n 0, 1) := by decide +kernel
theorem dX7_readStatement_342 : decode cX7_readStatement 342 = .ok (.getfield 99, 3) := by decide +kernel
theorem dX7_readStatement_345 : decode cX7_readStatement 345 = .ok (.iload_n 2, 1) := by decide +kernel
theorem dX7_readStatement_346 : decode cX7_readStatement 346 = .ok (.aload_n 0, 1) := by decide +kernel
theorem dX7_readStatement_347 : decode cX7_readStatement 347 = .ok (.bipush 115, 2) := by decide +kernel
theorem dX7_readStatement_349 : decode cX7_readStatement 349 = .ok (.bipush 110, 2) := by decide +kernel
theorem dX7_readStatement_351 : decode cX7_readStatement 351 = .ok (.invokevirtual 298, 3) := by decide +kernel
theorem dX7_readStatement_354 : decode cX7_readStatement 354 = .ok (.iastore, 1) := by decide +kernel
theorem dX7_readStatement_355 : decode cX7_readStatement 355 = .ok (.aload_n 0, 1) := by decide +kernel
theorem dX7_readStatement_356 : decode cX7_readStatement 356 = .ok (.getfield 99, 3) := by decide +kernel
theorem dX7_readStatement_359 : decode cX7_readStatement 359 = .ok (.iload_n 2, 1) := by decide +kernel
theorem dX7_readStatement_360 : decode cX7_readStatement 360 = .ok (.iconst 1, 1) := by decide +kernel
theorem dX7_readStatement_361 : decode cX7_readStatement 361 = .ok (.iadd, 1) := by decide +kernel
theorem dX7_readStatement_362 : decode cX7_readStatement 362 = .ok (.iconst 1, 1) := by decide +kernel
theorem dX7_readStatement_363 : decode cX7_readStatement 363 = .ok (.iastore, 1) := by decide +kernel
theorem dX7_readStatement_364 : decode cX7_readStatement 364 = .ok (.aload_n 0, 1) := by decide +kernel
theorem dX7_readStatement_365 : decode cX7_readStatement 365 = .ok (.getfield 274, 3) := by decide +kernel
theorem dX7_readStatement_368 : decode cX7_readStatement 368 = .ok (.ifCond .ne 75, 3) := by decide +kernel
theorem dX7_readStatement_371 : decode cX7_readStatement 371 = .ok (.aload_n 0, 1) := by decide +kernel
theorem dX7_readStatement_372 : decode cX7_readStatement 372 = .ok (.getfield 99, 3) := by decide +kernel
theorem dX7_readStatement_375 : decode cX7_readStatement 375 = .ok (.iload_n 2, 1) := by decide +kernel
theorem dX7_readStatement_376 : decode cX7_readStatement 376 = .ok (.iconst 1, 1) := by decide +kernel
theorem dX7_readStatement_377 : decode cX7_readStatement 377 = .ok (.iadd, 1) := by decide +kernel
theorem dX7_readStatement_378 : decode cX7_readStatement 378 = .ok (.iaload, 1) := by decide +kernel
theorem dX7_readStatement_379 : decode cX7_readStatement 379 = .ok (.bipush 28, 2) := by decide +kernel
theorem dX7_readStatement_381 : decode cX7_readStatement 381 = .ok (.if_icmp .ge 62, 3) := by decide +kernel
theorem dX7_readStatement_384 : decode cX7_readStatement 384 = .ok (.aload_n 0, 1) := by decide +kernel
theorem dX7_readStatement_385 : decode cX7_readStatement 385 = .ok (.invokevirtual 278, 3) := by decide +kernel
theorem dX7_readStatement_388 : decode cX7_readStatement 388 = .ok (.bipush 115, 2) := by decide +kernel
theorem dX7_readStatement_390 : decode cX7_readStatement 390 = .ok (.if_icmp .eq 12, 3) := by decide +kernel
theorem dX7_readStatement_393 : decode cX7_readStatement 393 = .ok (.aload_n 0, 1) := by decide +kernel
theorem dX7_readStatement_394 : decode cX7_readStatement 394 = .ok (.invokevirtual 278, 3) := by decide +kernel
theorem dX7_readStatement_397 : decode cX7_readStatement 397 = .ok (.bipush 110, 2) := by decide +kernel
theorem dX7_readStatement_399 : decode cX7_readStatement 399 = .ok (.if_icmp .ne 44, 3) := by decide +kernel
theorem dX7_readStatement_402 : decode cX7_readStatement 402 = .ok (.aload_n 0, 1) := by decide +kernel
theorem dX7_readStatement_403 : decode cX7_readStatement 403 = .ok (.getfield 99, 3) := by decide +kernel
theorem dX7_readStatement_406 : decode cX7_readStatement 406 = .ok (.iload_n 2, 1) := by decide +kernel
theorem dX7_readStatement_407 : decode cX7_readStatement 407 = .ok (.dup2, 1) := by decide +kernel
theorem dX7_readStatement_408 : decode cX7_readStatement 408 = .ok (.iaload, 1) := by decide +kernel
theorem dX7_readStatement_409 : decode cX7_readStatement 409 = .ok (.aload_n 0, 1) := by decide +kernel
theorem dX7_readStatement_410 : decode cX7_readStatement 410 = .ok (.bipush 115, 2) := by decide +kernel
theorem dX7_readStatement_412 : decode cX7_readStatement 412 = .ok (.bipush 110, 2) := by decide +kernel
theorem dX7_readStatement_414 : decode cX7_readStatement 414 = .ok (.invokevirtual 298, 3) := by decide +kernel
theorem dX7_readStatement_417 : decode cX7_readStatement 417 = .ok (.aload_n 0, 1) := by decide +kernel
theorem dX7_readStatement_418 : decode cX7_readStatement 418 = .ok (.getfield 99, 3) := by decide +kernel
theorem dX7_readStatement_421 : decode cX7_readStatement 421 = .ok (.iload_n 2, 1) := by decide +kernel
theorem dX7_readStatement_422 : decode cX7_readStatement 422 = .ok (.iconst 1, 1) := by decide +kernel
theorem dX7_readStatement_423 : decode cX7_readStatement 423 = .ok (.iadd, 1) := by decide +kernel
theorem dX7_readStatement_424 : decode cX7_readStatement 424 = .ok (.iaload, 1) := by decide +kernel
theorem dX7_readStatement_425 : decode cX7_readStatement 425 = .ok (.ishl, 1) := by decide +kernel
theorem dX7_readStatement_426 : decode cX7_readStatement 426 = .ok (.ior, 1) := by decide +kernel
theorem dX7_readStatement_427 : decode cX7_readStatement 427 = .ok (.iastore, 1) := by decide +kernel
theorem dX7_readStatement_428 : decode cX7_readStatement 428 = .ok (.aload_n 0, 1) := by decide +kernel
theorem dX7_readStatement_429 : decode cX7_readStatement 429 = .ok (.getfield 99, 3) := by decide +kernel
theorem dX7_readStatement_432 : decode cX7_readStatement 432 = .ok (.iload_n 2, 1) := by decide +kernel
theorem dX7_readStatement_433 : decode cX7_readStatement 433 = .ok (.iconst 1, 1) := by decide +kernel
theorem dX7_readStatement_434 : decode cX7_readStatement 434 = .ok (.iadd, 1) := by decide +kernel
theorem dX7_readStatement_435 : decode cX7_readStatement 435 = .ok (.dup2, 1) := by decide +kernel
theorem dX7_readStatement_436 : decode cX7_readStatement 436 = .ok (.iaload, 1) := by decide +kernel
theorem dX7_readStatement_437 : decode cX7_readStatement 437 = .ok (.iconst 1, 1) := by decide +kernel
theorem dX7_readStatement_438 : decode cX7_readStatement 438 = .ok (.iadd, 1) := by decide +kernel
theorem dX7_readStatement_439 : decode cX7_readStatement 439 = .ok (.iastore, 1) := by decide +kernel
theorem dX7_readStatement_440 : decode cX7_readStatement 440 = .ok (.goto (-76), 3) := by decide +kernel
theorem dX7_readStatement_443 : decode cX7_readStatement 443 = .ok (.aload_n 0, 1) := by decide +kernel
theorem dX7_readStatement_444 : decode cX7_readStatement 444 = .ok (.aload_n 0, 1) := by decide +kernel
theorem dX7_readStatement_445 : decode cX7_readStatement 445 = .ok (.invokevirtual 278, 3) := by decide +kernel
theorem dX7_readStatement_448 : decode cX7_readStatement 448 = .ok (.bipush 59, 2) := by decide +kernel
theorem dX7_readStatement_450 : decode cX7_readStatement 450 = .ok (.if_icmp .ne 7, 3) := by decide +kernel
theorem dX7_readStatement_453 : decode cX7_readStatement 453 = .ok (.iconst 1, 1) := by decide +kernel
theorem dX7_readStatement_454 : decode cX7_readStatement 454 = .ok (.goto 4, 3) := by decide +kernel
theorem dX7_readStatement_457 : decode cX7_readStatement 457 = .ok (.iconst 0, 1) := by decide +kernel
theorem dX7_readStatement_458 : decode cX7_readStatement 458 = .ok (.invokevirtual 285, 3) := by decide +kernel
theorem dX7_readStatement_461 : decode cX7_readStatement 461 = .ok (.aload_n 0, 1) := by decide +kernel
theorem dX7_readStatement_462 : decode cX7_readStatement 462 = .ok (.dup, 1) := by decide +kernel
theorem dX7_readStatement_463 : decode cX7_readStatement 463 = .ok (.getfield 292, 3) := by decide +kernel
theorem dX7_readStatement_466 : decode cX7_readStatement 466 = .ok (.iconst 1, 1) := by decide +kernel
theorem dX7_readStatement_467 : decode cX7_readStatement 467 = .ok (.iadd, 1) := by decide +kernel
theorem dX7_readStatement_468 : decode cX7_readStatement 468 = .ok (.putfield 292, 3) := by decide +kernel
theorem dX7_readStatement_471 : decode cX7_readStatement 471 = .ok (.return_, 1) := by decide +kernel
theorem dX7_comes_0 : decode cX7_comes 0 = .ok (.iconst 5, 1) := by decide +kernel
theorem dX7_comes_1 : decode cX7_comes 1 = .ok (.iload_n 1, 1) := by decide +kernel
theorem dX7_comes_2 : decode cX7_comes 2 = .ok (.imul, 1) := by decide +kernel
theorem dX7_comes_3 : decode cX7_comes 3 = .ok (.istore_n 2, 1) := by decide +kernel
theorem dX7_comes_4 : decode cX7_comes 4 = .ok (.aload_n 0, 1) := by decide +kernel
theorem dX7_comes_5 : decode cX7_comes 5 = .ok (.getfield 99, 3) := by decide +kernel
theorem dX7_comes_8 : decode cX7_comes 8 = .ok (.iload_n 2, 1) := by decide +kernel
theorem dX7_comes_9 : decode cX7_comes 9 = .ok (.iaload, 1) := by decide +kernel
theorem dX7_comes_10 : decode cX7_comes 10 = .ok (.istore_n 3, 1) := by decide +kernel
theorem dX7_comes_11 : decode cX7_comes 11 = .ok (.aload_n 0, 1) := by decide +kernel
theorem dX7_comes_12 : decode cX7_comes 12 = .ok (.getfield 99, 3) := by decide +kernel
theorem dX7_comes_15 : decode cX7_comes 15 = .ok (.iload_n 2, 1) := by decide +kernel
theorem dX7_comes_16 : decode cX7_comes 16 = .ok (.iconst 1, 1) := by decide +kernel
theorem dX7_comes_17 : decode cX7_comes 17 = .ok (.iadd, 1) := by decide +kernel
theorem dX7_comes_18 : decode cX7_comes 18 = .ok (.iaload, 1) := by decide +kernel
theorem dX7_comes_19 : decode cX7_comes 19 = .ok (.istore 4, 2) := by decide +kernel
theorem dX7_comes_21 : decode cX7_comes 21 = .ok (.aload_n 0, 1) := by decide +kernel
theorem dX7_comes_22 : decode cX7_comes 22 = .ok (.getfield 99, 3) := by decide +kernel
theorem dX7_comes_25 : decode cX7_comes 25 = .ok (.iload_n 2, 1) := by decide +kernel
theorem dX7_comes_26 : decode cX7_comes 26 = .ok (.iconst 2, 1) := by decide +kernel
theorem dX7_comes_27 : decode cX7_comes 27 = .ok (.iadd, 1) := by decide +kernel
theorem dX7_comes_28 : decode cX7_comes 28 = .ok (.iaload, 1) := by decide +kernel
theorem dX7_comes_29 : decode cX7_comes 29 = .ok (.istore 5, 2) := by decide +kernel
theorem dX7_comes_31 : decode cX7_comes 31 = .ok (.aload_n 0, 1) := by decide +kernel
theorem dX7_comes_32 : decode cX7_comes 32 = .ok (.getfield 96, 3) := by decide +kernel
theorem dX7_comes_35 : decode cX7_comes 35 = .ok (.iload_n 1, 1) := by decide +kernel
theorem dX7_comes_36 : decode cX7_comes 36 = .ok (.iaload, 1) := by decide +kernel
theorem dX7_comes_37 : decode cX7_comes 37 = .ok (.lookupswitch 209 #[(99, 35), (114, 166), (119, 80)], 35) := by decide +kernel
theorem dX7_comes_72 : decode cX7_comes 72 = .ok (.iload_n 3, 1) := by decide +kernel
theorem dX7_comes_73 : decode cX7_comes 73 = .ok (.i2l, 1) := by decide +kernel
theorem dX7_comes_74 : decode cX7_comes 74 = .ok (.lconst 1, 1) := by decide +kernel
theorem dX7_comes_75 : decode cX7_comes 75 = .ok (.ldc2_w 301, 3) := by decide +kernel
theorem dX7_comes_78 : decode cX7_comes 78 = .ok (.invokestatic 114, 3) := by decide +kernel
theorem dX7_comes_81 : decode cX7_comes 81 = .ok (.ifCond .eq 25, 3) := by decide +kernel
theorem dX7_comes_84 : decode cX7_comes 84 = .ok (.iload 4, 2) := by decide +kernel
theorem dX7_comes_86 : decode cX7_comes 86 = .ok (.i2l, 1) := by decide +kernel
theorem dX7_comes_87 : decode cX7_comes 87 = .ok (.lconst 0, 1) := by decide +kernel
theorem dX7_comes_88 : decode cX7_comes 88 = .ok (.ldc2_w 301, 3) := by decide +kernel
theorem dX7_comes_91 : decode cX7_comes 91 = .ok (.invokestatic 114, 3) := by decide +kernel
theorem dX7_comes_94 : decode cX7_comes 94 = .ok (.ifCond .eq 12, 3) := by decide +kernel
theorem dX7_comes_97 : decode cX7_comes 97 = .ok (.aload_n 0, 1) := by decide +kernel
theorem dX7_comes_98 : decode cX7_comes 98 = .ok (.getfield 111, 3) := by decide +kernel
theorem dX7_comes_101 : decode cX7_comes 101 = .ok (.bipush 8, 2) := by decide +kernel
theorem dX7_comes_103 : decode cX7_comes 103 = .ok (.if_icmp .ne 5, 3) := by decide +kernel
theorem dX7_comes_106 : decode cX7_comes 106 = .ok (.iconst 0, 1) := by decide +kernel
theorem dX7_comes_107 : decode cX7_comes 107 = .ok (.ireturn, 1) := by decide +kernel
theorem dX7_comes_108 : decode cX7_comes 108 = .ok (.aload_n 0, 1) := by decide +kernel
theorem dX7_comes_109 : decode cX7_comes 109 = .ok (.iload_n 3, 1) := by decide +kernel
theorem dX7_comes_110 : decode cX7_comes 110 = .ok (.iload 4, 2) := by decide +kernel
theorem dX7_comes_112 : decode cX7_comes 112 = .ok (.invokevirtual 122, 3) := by decide +kernel
theorem dX7_comes_115 : decode cX7_comes 115 = .ok (.iconst 1, 1) := by decide +kernel
theorem dX7_comes_116 : decode cX7_comes 116 = .ok (.ireturn, 1) := by decide +kernel
theorem dX7_comes_117 : decode cX7_comes 117 = .ok (.aload_n 0, 1) := by decide +kernel
theorem dX7_comes_118 : decode cX7_comes 118 = .ok (.getfield 99, 3) := by decide +kernel
theorem dX7_comes_121 : decode cX7_comes 121 = .ok (.iload_n 2, 1) := by decide +kernel
theorem dX7_comes_122 : decode cX7_comes 122 = .ok (.iconst 3, 1) := by decide +kernel
theorem dX7_comes_123 : decode cX7_comes 123 = .ok (.iadd, 1) := by decide +kernel
theorem dX7_comes_124 : decode cX7_comes 124 = .ok (.iaload, 1) := by decide +kernel
theorem dX7_comes_125 : decode cX7_comes 125 = .ok (.istore 6, 2) := by decide +kernel
theorem dX7_comes_127 : decode cX7_comes 127 = .ok (.aload_n 0, 1) := by decide +kernel
theorem dX7_comes_128 : decode cX7_comes 128 = .ok (.getfield 99, 3) := by decide +kernel
theorem dX7_comes_131 : decode cX7_comes 131 = .ok (.iload_n 2, 1) := by decide +kernel
theorem dX7_comes_132 : decode cX7_comes 132 = .ok (.iconst 4, 1) := by decide +kernel
theorem dX7_comes_133 : decode cX7_comes 133 = .ok (.iadd, 1) := by decide +kernel
theorem dX7_comes_134 : decode cX7_comes 134 = .ok (.iaload, 1) := by decide +kernel
theorem dX7_comes_135 : decode cX7_comes 135 = .ok (.istore 7, 2) := by decide +kernel
theorem dX7_comes_137 : decode cX7_comes 137 = .ok (.aload_n 0, 1) := by decide +kernel
theorem dX7_comes_138 : decode cX7_comes 138 = .ok (.iload_n 3, 1) := by decide +kernel
theorem dX7_comes_139 : decode cX7_comes 139 = .ok (.iload 4, 2) := by decide +kernel
theorem dX7_comes_141 : decode cX7_comes 141 = .ok (.invokevirtual 135, 3) := by decide +kernel
theorem dX7_comes_144 : decode cX7_comes 144 = .ok (.ifCond .eq 42, 3) := by decide +kernel
theorem dX7_comes_147 : decode cX7_comes 147 = .ok (.iload 7, 2) := by decide +kernel
theorem dX7_comes_149 : decode cX7_comes 149 = .ok (.i2l, 1) := by decide +kernel
theorem dX7_comes_150 : decode cX7_comes 150 = .ok (.lconst 1, 1) := by decide +kernel
theorem dX7_comes_151 : decode cX7_comes 151 = .ok (.ldc2_w 192, 3) := by decide +kernel
theorem dX7_comes_154 : decode cX7_comes 154 = .ok (.invokestatic 114, 3) := by decide +kernel
theorem dX7_comes_157 : decode cX7_comes 157 = .ok (.ifCond .eq 29, 3) := by decide +kernel
theorem dX7_comes_160 : decode cX7_comes 160 = .ok (.aload_n 0, 1) := by decide +kernel
theorem dX7_comes_161 : decode cX7_comes 161 = .ok (.getfield 132, 3) := by decide +kernel
theorem dX7_comes_164 : decode cX7_comes 164 = .ok (.bipush 24, 2) := by decide +kernel
theorem dX7_comes_166 : decode cX7_comes 166 = .ok (.if_icmp .eq 20, 3) := by decide +kernel
theorem dX7_comes_169 : decode cX7_comes 169 = .ok (.aload_n 0, 1) := by decide +kernel
theorem dX7_comes_170 : decode cX7_comes 170 = .ok (.iload_n 3, 1) := by decide +kernel
theorem dX7_comes_171 : decode cX7_comes 171 = .ok (.iload 5, 2) := by decide +kernel
theorem dX7_comes_173 : decode cX7_comes 173 = .ok (.iload 6, 2) := by decide +kernel
theorem dX7_comes_175 : decode cX7_comes 175 = .ok (.invokevirtual 139, 3) := by decide +kernel
theorem dX7_comes_178 : decode cX7_comes 178 = .ok (.iload 7, 2) := by decide +kernel
theorem dX7_comes_180 : decode cX7_comes 180 = .ok (.iadd, 1) := by decide +kernel
theorem dX7_comes_181 : decode cX7_comes 181 = .ok (.bipush 100, 2) := by decide +kernel
theorem dX7_comes_183 : decode cX7_comes 183 = .ok (.if_icmp .le 5, 3) := by decide +kernel
theorem dX7_comes_186 : decode cX7_comes 186 = .ok (.iconst 0, 1) := by decide +kernel
theorem dX7_comes_187 : decode cX7_comes 187 = .ok (.ireturn, 1) := by decide +kernel
theorem dX7_comes_188 : decode cX7_comes 188 = .ok (.aload_n 0, 1) := by decide +kernel
theorem dX7_comes_189 : decode cX7_comes 189 = .ok (.iload_n 3, 1) := by decide +kernel
theorem dX7_comes_190 : decode cX7_comes 190 = .ok (.iload 4, 2) := by decide +kernel
theorem dX7_comes_192 : decode cX7_comes 192 = .ok (.iload 5, 2) := by decide +kernel
theorem dX7_comes_194 : decode cX7_comes 194 = .ok (.iload 6, 2) := by decide +kernel
theorem dX7_comes_196 : decode cX7_comes 196 = .ok (.iload 7, 2) := by decide +kernel
theorem dX7_comes_198 : decode cX7_comes 198 = .ok (.invokevirtual 143, 3) := by decide +kernel
theorem dX7_comes_201 : decode cX7_comes 201 = .ok (.iconst 1, 1) := by decide +kernel
theorem dX7_comes_202 : decode cX7_comes 202 = .ok (.ireturn, 1) := by decide +kernel
theorem dX7_comes_203 : decode cX7_comes 203 = .ok (.aload_n 0, 1) := by decide +kernel
theorem dX7_comes_204 : decode cX7_comes 204 = .ok (.iload_n 3, 1) := by decide +kernel
theorem dX7_comes_205 : decode cX7_comes 205 = .ok (.invokevirtual 126, 3) := by decide +kernel
theorem dX7_comes_208 : decode cX7_comes 208 = .ok (.ifCond .eq 25, 3) := by decide +kernel
theorem dX7_comes_211 : decode cX7_comes 211 = .ok (.iload 5, 2) := by decide +kernel
theorem dX7_comes_213 : decode cX7_comes 213 = .ok (.i2l, 1) := by decide +kernel
theorem dX7_comes_214 : decode cX7_comes 214 = .ok (.lconst 1, 1) := by decide +kernel
theorem dX7_comes_215 : decode cX7_comes 215 = .ok (.ldc2_w 303, 3) := by decide +kernel
theorem dX7_comes_218 : decode cX7_comes 218 = .ok (.invokestatic 114, 3) := by decide +kernel
theorem dX7_comes_221 : decode cX7_comes 221 = .ok (.ifCond .eq 12, 3) := by decide +kernel
theorem dX7_comes_224 : decode cX7_comes 224 = .ok (.aload_n 0, 1) := by decide +kernel
theorem dX7_comes_225 : decode cX7_comes 225 = .ok (.getfield 147, 3) := by decide +kernel
theorem dX7_comes_228 : decode cX7_comes 228 = .ok (.bipush 8, 2) := by decide +kernel
theorem dX7_comes_230 : decode cX7_comes 230 = .ok (.if_icmp .ne 5, 3) := by decide +kernel
theorem dX7_comes_233 : decode cX7_comes 233 = .ok (.iconst 0, 1) := by decide +kernel
theorem dX7_comes_234 : decode cX7_comes 234 = .ok (.ireturn, 1) := by decide +kernel
theorem dX7_comes_235 : decode cX7_comes 235 = .ok (.aload_n 0, 1) := by decide +kernel
theorem dX7_comes_236 : decode cX7_comes 236 = .ok (.iload_n 3, 1) := by decide +kernel
theorem dX7_comes_237 : decode cX7_comes 237 = .ok (.iload 4, 2) := by decide +kernel
theorem dX7_comes_239 : decode cX7_comes 239 = .ok (.iload 5, 2) := by decide +kernel
theorem dX7_comes_241 : decode cX7_comes 241 = .ok (.invokevirtual 153, 3) := by decide +kernel
theorem dX7_comes_244 : decode cX7_comes 244 = .ok (.iconst 1, 1) := by decide +kernel
theorem dX7_comes_245 : decode cX7_comes 245 = .ok (.ireturn, 1) := by decide +kernel
theorem dX7_comes_246 : decode cX7_comes 246 = .ok (.aload_n 0, 1) := by decide +kernel
theorem dX7_comes_247 : decode cX7_comes 247 = .ok (.iload 4, 2) := by decide +kernel
theorem dX7_comes_249 : decode cX7_comes 249 = .ok (.putfield 62, 3) := by decide +kernel
theorem dX7_comes_252 : decode cX7_comes 252 = .ok (.iconst 0, 1) := by decide +kernel
theorem dX7_comes_253 : decode cX7_comes 253 = .ok (.istore 8, 2) := by decide +kernel
theorem dX7_comes_255 : decode cX7_comes 255 = .ok (.iload 8, 2) := by decide +kernel
theorem dX7_comes_257 : decode cX7_comes 257 = .ok (.iload 4, 2) := by decide +kernel
theorem dX7_comes_259 : decode cX7_comes 259 = .ok (.if_icmp .ge 22, 3) := by decide +kernel
theorem dX7_comes_262 : decode cX7_comes 262 = .ok (.aload_n 0, 1) := by decide +kernel
theorem dX7_comes_263 : decode cX7_comes 263 = .ok (.getfield 59, 3) := by decide +kernel
theorem dX7_comes_266 : decode cX7_comes 266 = .ok (.iload 8, 2) := by decide +kernel
theorem dX7_comes_268 : decode cX7_comes 268 = .ok (.iload_n 3, 1) := by decide +kernel
theorem dX7_comes_269 : decode cX7_comes 269 = .ok (.iload 8, 2) := by decide +kernel
theorem dX7_comes_271 : decode cX7_comes 271 = .ok (.ishr, 1) := by decide +kernel
theorem dX7_comes_272 : decode cX7_comes 272 = .ok (.iconst 1, 1) := by decide +kernel
theorem dX7_comes_273 : decode cX7_comes 273 = .ok (.iand, 1) := by decide +kernel
theorem dX7_comes_274 : decode cX7_comes 274 = .ok (.iastore, 1) := by decide +kernel
theorem dX7_comes_275 : decode cX7_comes 275 = .ok (.iinc 8 1, 3) := by decide +kernel
theorem dX7_comes_278 : decode cX7_comes 278 = .ok (.goto (-23), 3) := by decide +kernel
theorem dX7_comes_281 : decode cX7_comes 281 = .ok (.iconst 1, 1) := by decide +kernel
theorem dX7_comes_282 : decode cX7_comes 282 = .ok (.ireturn, 1) := by decide +kernel
theorem dX7_coast_0 : decode cX7_coast 0 = .ok (.aload_n 0, 1) := by decide +kernel
theorem dX7_coast_1 : decode cX7_coast 1 = .ok (.iconst 0, 1) := by decide +kernel
theorem dX7_coast_2 : decode cX7_coast 2 = .ok (.putfield 268, 3) := by decide +kernel
theorem dX7_coast_5 : decode cX7_coast 5 = .ok (.aload_n 0, 1) := by decide +kernel
theorem dX7_coast_6 : decode cX7_coast 6 = .ok (.aload_n 0, 1) := by decide +kernel
theorem dX7_coast_7 : decode cX7_coast 7 = .ok (.getfield 108, 3) := by decide +kernel
theorem dX7_coast_10 : decode cX7_coast 10 = .ok (.putfield 271, 3) := by decide +kernel
theorem dX7_coast_13 : decode cX7_coast 13 = .ok (.aload_n 0, 1) := by decide +kernel
theorem dX7_coast_14 : decode cX7_coast 14 = .ok (.iconst 0, 1) := by decide +kernel
theorem dX7_coast_15 : decode cX7_coast 15 = .ok (.putfield 108, 3) := by decide +kernel
theorem dX7_coast_18 : decode cX7_coast 18 = .ok (.aload_n 0, 1) := by decide +kernel
theorem dX7_coast_19 : decode cX7_coast 19 = .ok (.iconst 0, 1) := by decide +kernel
theorem dX7_coast_20 : decode cX7_coast 20 = .ok (.putfield 274, 3) := by decide +kernel
theorem dX7_coast_23 : decode cX7_coast 23 = .ok (.aload_n 0, 1) := by decide +kernel
theorem dX7_coast_24 : decode cX7_coast 24 = .ok (.iconst 0, 1) := by decide +kernel
theorem dX7_coast_25 : decode cX7_coast 25 = .ok (.putfield 292, 3) := by decide +kernel
theorem dX7_coast_28 : decode cX7_coast 28 = .ok (.aload_n 0, 1) := by decide +kernel
theorem dX7_coast_29 : decode cX7_coast 29 = .ok (.getfield 274, 3) := by decide +kernel
theorem dX7_coast_32 : decode cX7_coast 32 = .ok (.ifCond .ne 28, 3) := by decide +kernel
theorem dX7_coast_35 : decode cX7_coast 35 = .ok (.aload_n 0, 1) := by decide +kernel
theorem dX7_coast_36 : decode cX7_coast 36 = .ok (.getfield 292, 3) := by decide +kernel
theorem dX7_coast_39 : decode cX7_coast 39 = .ok (.ifCond .eq 14, 3) := by decide +kernel
theorem dX7_coast_42 : decode cX7_coast 42 = .ok (.aload_n 0, 1) := by decide +kernel
theorem dX7_coast_43 : decode cX7_coast 43 = .ok (.getfield 268, 3) := by decide +kernel
theorem dX7_coast_46 : decode cX7_coast 46 = .ok (.aload_n 0, 1) := by decide +kernel
theorem dX7_coast_47 : decode cX7_coast 47 = .ok (.getfield 271, 3) := by decide +kernel
theorem dX7_coast_50 : decode cX7_coast 50 = .ok (.if_icmp .ge 10, 3) := by decide +kernel
theorem dX7_coast_53 : decode cX7_coast 53 = .ok (.aload_n 0, 1) := by decide +kernel
theorem dX7_coast_54 : decode cX7_coast 54 = .ok (.invokevirtual 305, 3) := by decide +kernel
theorem dX7_coast_57 : decode cX7_coast 57 = .ok (.goto (-29), 3) := by decide +kernel
theorem dX7_coast_60 : decode cX7_coast 60 = .ok (.aload_n 0, 1) := by decide +kernel
theorem dX7_coast_61 : decode cX7_coast 61 = .ok (.getfield 274, 3) := by decide +kernel
theorem dX7_coast_64 : decode cX7_coast 64 = .ok (.ifCond .eq 12, 3) := by decide +kernel
theorem dX7_coast_67 : decode cX7_coast 67 = .ok (.sipush (-1000), 3) := by decide +kernel
theorem dX7_coast_70 : decode cX7_coast 70 = .ok (.aload_n 0, 1) := by decide +kernel
theorem dX7_coast_71 : decode cX7_coast 71 = .ok (.getfield 268, 3) := by decide +kernel
theorem dX7_coast_74 : decode cX7_coast 74 = .ok (.isub, 1) := by decide +kernel
theorem dX7_coast_75 : decode cX7_coast 75 = .ok (.ireturn, 1) := by decide +kernel
theorem dX7_coast_76 : decode cX7_coast 76 = .ok (.aload_n 0, 1) := by decide +kernel
theorem dX7_coast_77 : decode cX7_coast 77 = .ok (.getfield 111, 3) := by decide +kernel
theorem dX7_coast_80 : decode cX7_coast 80 = .ok (.istore_n 1, 1) := by decide +kernel
theorem dX7_coast_81 : decode cX7_coast 81 = .ok (.aload_n 0, 1) := by decide +kernel
theorem dX7_coast_82 : decode cX7_coast 82 = .ok (.getfield 132, 3) := by decide +kernel
theorem dX7_coast_85 : decode cX7_coast 85 = .ok (.istore_n 2, 1) := by decide +kernel
theorem dX7_coast_86 : decode cX7_coast 86 = .ok (.aload_n 0, 1) := by decide +kernel
theorem dX7_coast_87 : decode cX7_coast 87 = .ok (.getfield 147, 3) := by decide +kernel
theorem dX7_coast_90 : decode cX7_coast 90 = .ok (.istore_n 3, 1) := by decide +kernel
theorem dX7_coast_91 : decode cX7_coast 91 = .ok (.aload_n 0, 1) := by decide +kernel
theorem dX7_coast_92 : decode cX7_coast 92 = .ok (.getfield 62, 3) := by decide +kernel
theorem dX7_coast_95 : decode cX7_coast 95 = .ok (.istore 4, 2) := by decide +kernel
theorem dX7_coast_97 : decode cX7_coast 97 = .ok (.iconst 0, 1) := by decide +kernel
theorem dX7_coast_98 : decode cX7_coast 98 = .ok (.istore 5, 2) := by decide +kernel
theorem dX7_coast_100 : decode cX7_coast 100 = .ok (.iload 5, 2) := by decide +kernel
theorem dX7_coast_102 : decode cX7_coast 102 = .ok (.bipush 28, 2) := by decide +kernel
theorem dX7_coast_104 : decode cX7_coast 104 = .ok (.if_icmp .ge 23, 3) := by decide +kernel
theorem dX7_coast_107 : decode cX7_coast 107 = .ok (.aload_n 0, 1) := by decide +kernel
theorem dX7_coast_108 : decode cX7_coast 108 = .ok (.getfield 102, 3) := by decide +kernel
theorem dX7_coast_111 : decode cX7_coast 111 = .ok (.iload 5, 2) := by decide +kernel
theorem dX7_coast_113 : decode cX7_coast 113 = .ok (.aload_n 0, 1) := by decide +kernel
theorem dX7_coast_114 : decode cX7_coast 114 = .ok (.getfield 59, 3) := by decide +kernel
theorem dX7_coast_117 : decode cX7_coast 117 = .ok (.iload 5, 2) := by decide +kernel
theorem dX7_coast_119 : decode cX7_coast 119 = .ok (.iaload, 1) := by decide +kernel
theorem dX7_coast_120 : decode cX7_coast 120 = .ok (.iastore, 1) := by decide +kernel
theorem dX7_coast_121 : decode cX7_coast 121 = .ok (.iinc 5 1, 3) := by decide +kernel
theorem dX7_coast_124 : decode cX7_coast 124 = .ok (.goto (-24), 3) := by decide +kernel
theorem dX7_coast_127 : decode cX7_coast 127 = .ok (.iconst 0, 1) := by decide +kernel
theorem dX7_coast_128 : decode cX7_coast 128 = .ok (.istore 5, 2) := by decide +kernel
theorem dX7_coast_130 : decode cX7_coast 130 = .ok (.iload 5, 2) := by decide +kernel
theorem dX7_coast_132 : decode cX7_coast 132 = .ok (.aload_n 0, 1) := by decide +kernel
theorem dX7_coast_133 : decode cX7_coast 133 = .ok (.getfield 292, 3) := by decide +kernel
theorem dX7_coast_136 : decode cX7_coast 136 = .ok (.if_icmp .ge 81, 3) := by decide +kernel
theorem dX7_coast_139 : decode cX7_coast 139 = .ok (.aload_n 0, 1) := by decide +kernel
theorem dX7_coast_140 : decode cX7_coast 140 = .ok (.iload 5, 2) := by decide +kernel
theorem dX7_coast_142 : decode cX7_coast 142 = .ok (.invokevirtual 308, 3) := by decide +kernel
theorem dX7_coast_145 : decode cX7_coast 145 = .ok (.ifCond .ne 66, 3) := by decide +kernel
theorem dX7_coast_148 : decode cX7_coast 148 = .ok (.aload_n 0, 1) := by decide +kernel
theorem dX7_coast_149 : decode cX7_coast 149 = .ok (.iload_n 1, 1) := by decide +kernel
theorem dX7_coast_150 : decode cX7_coast 150 = .ok (.putfield 111, 3) := by decide +kernel
theorem dX7_coast_153 : decode cX7_coast 153 = .ok (.aload_n 0, 1) := by decide +kernel
theorem dX7_coast_154 : decode cX7_coast 154 = .ok (.iload_n 2, 1) := by decide +kernel
theorem dX7_coast_155 : decode cX7_coast 155 = .ok (.putfield 132, 3) := by decide +kernel
theorem dX7_coast_158 : decode cX7_coast 158 = .ok (.aload_n 0, 1) := by decide +kernel
theorem dX7_coast_159 : decode cX7_coast 159 = .ok (.iload_n 3, 1) := by decide +kernel
theorem dX7_coast_160 : decode cX7_coast 160 = .ok (.putfield 147, 3) := by decide +kernel
theorem dX7_coast_163 : decode cX7_coast 163 = .ok (.aload_n 0, 1) := by decide +kernel
theorem dX7_coast_164 : decode cX7_coast 164 = .ok (.iload 4, 2) := by decide +kernel
theorem dX7_coast_166 : decode cX7_coast 166 = .ok (.putfield 62, 3) := by decide +kernel
theorem dX7_coast_169 : decode cX7_coast 169 = .ok (.iconst 0, 1) := by decide +kernel
theorem dX7_coast_170 : decode cX7_coast 170 = .ok (.istore 6, 2) := by decide +kernel
theorem dX7_coast_172 : decode cX7_coast 172 = .ok (.iload 6, 2) := by decide +kernel
theorem dX7_coast_174 : decode cX7_coast 174 = .ok (.bipush 28, 2) := by decide +kernel
theorem dX7_coast_176 : decode cX7_coast 176 = .ok (.if_icmp .ge 23, 3) := by decide +kernel
theorem dX7_coast_179 : decode cX7_coast 179 = .ok (.aload_n 0, 1) := by decide +kernel
theorem dX7_coast_180 : decode cX7_coast 180 = .ok (.getfield 59, 3) := by decide +kernel
theorem dX7_coast_183 : decode cX7_coast 183 = .ok (.iload 6, 2) := by decide +kernel
theorem dX7_coast_185 : decode cX7_coast 185 = .ok (.aload_n 0, 1) := by decide +kernel
theorem dX7_coast_186 : decode cX7_coast 186 = .ok (.getfield 102, 3) := by decide +kernel
theorem dX7_coast_189 : decode cX7_coast 189 = .ok (.iload 6, 2) := by decide +kernel
theorem dX7_coast_191 : decode cX7_coast 191 = .ok (.iaload, 1) := by decide +kernel
theorem dX7_coast_192 : decode cX7_coast 192 = .ok (.iastore, 1) := by decide +kernel
theorem dX7_coast_193 : decode cX7_coast 193 = .ok (.iinc 6 1, 3) := by decide +kernel
theorem dX7_coast_196 : decode cX7_coast 196 = .ok (.goto (-24), 3) := by decide +kernel
theorem dX7_coast_199 : decode cX7_coast 199 = .ok (.sipush (-2000), 3) := by decide +kernel
theorem dX7_coast_202 : decode cX7_coast 202 = .ok (.aload_n 0, 1) := by decide +kernel
theorem dX7_coast_203 : decode cX7_coast 203 = .ok (.getfield 93, 3) := by decide +kernel
theorem dX7_coast_206 : decode cX7_coast 206 = .ok (.iload 5, 2) := by decide +kernel
theorem dX7_coast_208 : decode cX7_coast 208 = .ok (.iaload, 1) := by decide +kernel
theorem dX7_coast_209 : decode cX7_coast 209 = .ok (.isub, 1) := by decide +kernel
theorem dX7_coast_210 : decode cX7_coast 210 = .ok (.ireturn, 1) := by decide +kernel
theorem dX7_coast_211 : decode cX7_coast 211 = .ok (.iinc 5 1, 3) := by decide +kernel
theorem dX7_coast_214 : decode cX7_coast 214 = .ok (.goto (-84), 3) := by decide +kernel
theorem dX7_coast_217 : decode cX7_coast 217 = .ok (.aload_n 0, 1) := by decide +kernel
theorem dX7_coast_218 : decode cX7_coast 218 = .ok (.getfield 292, 3) := by decide +kernel
theorem dX7_coast_221 : decode cX7_coast 221 = .ok (.ireturn, 1) := by decide +kernel
theorem dX7_carry_0 : decode cX7_carry 0 = .ok (.aload_n 0, 1) := by decide +kernel
theorem dX7_carry_1 : decode cX7_carry 1 = .ok (.getfield 311, 3) := by decide +kernel
theorem dX7_carry_4 : decode cX7_carry 4 = .ok (.ifCond .eq 13, 3) := by decide +kernel
theorem dX7_carry_7 : decode cX7_carry 7 = .ok (.aload_n 0, 1) := by decide +kernel
theorem dX7_carry_8 : decode cX7_carry 8 = .ok (.getfield 105, 3) := by decide +kernel
theorem dX7_carry_11 : decode cX7_carry 11 = .ok (.aload_n 0, 1) := by decide +kernel
theorem dX7_carry_12 : decode cX7_carry 12 = .ok (.getfield 314, 3) := by decide +kernel
theorem dX7_carry_15 : decode cX7_carry 15 = .ok (.iload_n 1, 1) := by decide +kernel
theorem dX7_carry_16 : decode cX7_carry 16 = .ok (.iastore, 1) := by decide +kernel
theorem dX7_carry_17 : decode cX7_carry 17 = .ok (.aload_n 0, 1) := by decide +kernel
theorem dX7_carry_18 : decode cX7_carry 18 = .ok (.dup, 1) := by decide +kernel
theorem dX7_carry_19 : decode cX7_carry 19 = .ok (.getfield 314, 3) := by decide +kernel
theorem dX7_carry_22 : decode cX7_carry 22 = .ok (.iconst 1, 1) := by decide +kernel
theorem dX7_carry_23 : decode cX7_carry 23 = .ok (.iadd, 1) := by decide +kernel
theorem dX7_carry_24 : decode cX7_carry 24 = .ok (.putfield 314, 3) := by decide +kernel
theorem dX7_carry_27 : decode cX7_carry 27 = .ok (.aload_n 0, 1) := by decide +kernel
theorem dX7_carry_28 : decode cX7_carry 28 = .ok (.getfield 105, 3) := by decide +kernel
theorem dX7_carry_31 : decode cX7_carry 31 = .ok (.aload_n 0, 1) := by decide +kernel
theorem dX7_carry_32 : decode cX7_carry 32 = .ok (.getfield 314, 3) := by decide +kernel
theorem dX7_carry_35 : decode cX7_carry 35 = .ok (.iconst 1, 1) := by decide +kernel
theorem dX7_carry_36 : decode cX7_carry 36 = .ok (.isub, 1) := by decide +kernel
theorem dX7_carry_37 : decode cX7_carry 37 = .ok (.iaload, 1) := by decide +kernel
theorem dX7_carry_38 : decode cX7_carry 38 = .ok (.ireturn, 1) := by decide +kernel
theorem dX7_carryAll_0 : decode cX7_carryAll 0 = .ok (.aload_n 0, 1) := by decide +kernel
theorem dX7_carryAll_1 : decode cX7_carryAll 1 = .ok (.iconst 0, 1) := by decide +kernel
theorem dX7_carryAll_2 : decode cX7_carryAll 2 = .ok (.putfield 314, 3) := by decide +kernel
theorem dX7_carryAll_5 : decode cX7_carryAll 5 = .ok (.aload_n 0, 1) := by decide +kernel
theorem dX7_carryAll_6 : decode cX7_carryAll 6 = .ok (.aload_n 0, 1) := by decide +kernel
theorem dX7_carryAll_7 : decode cX7_carryAll 7 = .ok (.aload_n 0, 1) := by decide +kernel
theorem dX7_carryAll_8 : decode cX7_carryAll 8 = .ok (.getfield 111, 3) := by decide +kernel
theorem dX7_carryAll_11 : decode cX7_carryAll 11 = .ok (.invokevirtual 317, 3) := by decide +kernel
theorem dX7_carryAll_14 : decode cX7_carryAll 14 = .ok (.putfield 111, 3) := by decide +kernel
theorem dX7_carryAll_17 : decode cX7_carryAll 17 = .ok (.aload_n 0, 1) := by decide +kernel
theorem dX7_carryAll_18 : decode cX7_carryAll 18 = .ok (.aload_n 0, 1) := by decide +kernel
theorem dX7_carryAll_19 : decode cX7_carryAll 19 = .ok (.aload_n 0, 1) := by decide +kernel
theorem dX7_carryAll_20 : decode cX7_carryAll 20 = .ok (.getfield 132, 3) := by decide +kernel
theorem dX7_carryAll_23 : decode cX7_carryAll 23 = .ok (.invokevirtual 317, 3) := by decide +kernel
theorem dX7_carryAll_26 : decode cX7_carryAll 26 = .ok (.putfield 132, 3) := by decide +kernel
theorem dX7_carryAll_29 : decode cX7_carryAll 29 = .ok (.aload_n 0, 1) := by decide +kernel
theorem dX7_carryAll_30 : decode cX7_carryAll 30 = .ok (.aload_n 0, 1) := by decide +kernel
theorem dX7_carryAll_31 : decode cX7_carryAll 31 = .ok (.aload_n 0, 1) := by decide +kernel
theorem dX7_carryAll_32 : decode cX7_carryAll 32 = .ok (.getfield 147, 3) := by decide +kernel
theorem dX7_carryAll_35 : decode cX7_carryAll 35 = .ok (.invokevirtual 317, 3) := by decide +kernel
theorem dX7_carryAll_38 : decode cX7_carryAll 38 = .ok (.putfield 147, 3) := by decide +kernel
theorem dX7_carryAll_41 : decode cX7_carryAll 41 = .ok (.aload_n 0, 1) := by decide +kernel
theorem dX7_carryAll_42 : decode cX7_carryAll 42 = .ok (.aload_n 0, 1) := by decide +kernel
theorem dX7_carryAll_43 : decode cX7_carryAll 43 = .ok (.aload_n 0, 1) := by decide +kernel
theorem dX7_carryAll_44 : decode cX7_carryAll 44 = .ok (.getfield 62, 3) := by decide +kernel
theorem dX7_carryAll_47 : decode cX7_carryAll 47 = .ok (.invokevirtual 317, 3) := by decide +kernel
theorem dX7_carryAll_50 : decode cX7_carryAll 50 = .ok (.putfield 62, 3) := by decide +kernel
theorem dX7_carryAll_53 : decode cX7_carryAll 53 = .ok (.aload_n 0, 1) := by decide +kernel
theorem dX7_carryAll_54 : decode cX7_carryAll 54 = .ok (.aload_n 0, 1) := by decide +kernel
theorem dX7_carryAll_55 : decode cX7_carryAll 55 = .ok (.aload_n 0, 1) := by decide +kernel
theorem dX7_carryAll_56 : decode cX7_carryAll 56 = .ok (.getfield 186, 3) := by decide +kernel
theorem dX7_carryAll_59 : decode cX7_carryAll 59 = .ok (.invokevirtual 317, 3) := by decide +kernel
theorem dX7_carryAll_62 : decode cX7_carryAll 62 = .ok (.putfield 186, 3) := by decide +kernel
theorem dX7_carryAll_65 : decode cX7_carryAll 65 = .ok (.aload_n 0, 1) := by decide +kernel
theorem dX7_carryAll_66 : decode cX7_carryAll 66 = .ok (.aload_n 0, 1) := by decide +kernel
theorem dX7_carryAll_67 : decode cX7_carryAll 67 = .ok (.aload_n 0, 1) := by decide +kernel
theorem dX7_carryAll_68 : decode cX7_carryAll 68 = .ok (.getfield 194, 3) := by decide +kernel
theorem dX7_carryAll_71 : decode cX7_carryAll 71 = .ok (.invokevirtual 317, 3) := by decide +kernel
theorem dX7_carryAll_74 : decode cX7_carryAll 74 = .ok (.putfield 194, 3) := by decide +kernel
theorem dX7_carryAll_77 : decode cX7_carryAll 77 = .ok (.aload_n 0, 1) := by decide +kernel
theorem dX7_carryAll_78 : decode cX7_carryAll 78 = .ok (.aload_n 0, 1) := by decide +kernel
theorem dX7_carryAll_79 : decode cX7_carryAll 79 = .ok (.aload_n 0, 1) := by decide +kernel
theorem dX7_carryAll_80 : decode cX7_carryAll 80 = .ok (.getfield 203, 3) := by decide +kernel
theorem dX7_carryAll_83 : decode cX7_carryAll 83 = .ok (.invokevirtual 317, 3) := by decide +kernel
theorem dX7_carryAll_86 : decode cX7_carryAll 86 = .ok (.putfield 203, 3) := by decide +kernel
theorem dX7_carryAll_89 : decode cX7_carryAll 89 = .ok (.aload_n 0, 1) := by decide +kernel
theorem dX7_carryAll_90 : decode cX7_carryAll 90 = .ok (.aload_n 0, 1) := by decide +kernel
theorem dX7_carryAll_91 : decode cX7_carryAll 91 = .ok (.aload_n 0, 1) := by decide +kernel
theorem dX7_carryAll_92 : decode cX7_carryAll 92 = .ok (.getfield 170, 3) := by decide +kernel
theorem dX7_carryAll_95 : decode cX7_carryAll 95 = .ok (.invokevirtual 317, 3) := by decide +kernel
theorem dX7_carryAll_98 : decode cX7_carryAll 98 = .ok (.putfield 170, 3) := by decide +kernel
theorem dX7_carryAll_101 : decode cX7_carryAll 101 = .ok (.aload_n 0, 1) := by decide +kernel
theorem dX7_carryAll_102 : decode cX7_carryAll 102 = .ok (.aload_n 0, 1) := by decide +kernel
theorem dX7_carryAll_103 : decode cX7_carryAll 103 = .ok (.aload_n 0, 1) := by decide +kernel
theorem dX7_carryAll_104 : decode cX7_carryAll 104 = .ok (.getfield 66, 3) := by decide +kernel
theorem dX7_carryAll_107 : decode cX7_carryAll 107 = .ok (.invokevirtual 317, 3) := by decide +kernel
theorem dX7_carryAll_110 : decode cX7_carryAll 110 = .ok (.putfield 66, 3) := by decide +kernel
theorem dX7_carryAll_113 : decode cX7_carryAll 113 = .ok (.aload_n 0, 1) := by decide +kernel
theorem dX7_carryAll_114 : decode cX7_carryAll 114 = .ok (.aload_n 0, 1) := by decide +kernel
theorem dX7_carryAll_115 : decode cX7_carryAll 115 = .ok (.aload_n 0, 1) := by decide +kernel
theorem dX7_carryAll_116 : decode cX7_carryAll 116 = .ok (.getfield 173, 3) := by decide +kernel
theorem dX7_carryAll_119 : decode cX7_carryAll 119 = .ok (.invokevirtual 317, 3) := by decide +kernel
theorem dX7_carryAll_122 : decode cX7_carryAll 122 = .ok (.putfield 173, 3) := by decide +kernel
theorem dX7_carryAll_125 : decode cX7_carryAll 125 = .ok (.aload_n 0, 1) := by decide +kernel
theorem dX7_carryAll_126 : decode cX7_carryAll 126 = .ok (.aload_n 0, 1) := by decide +kernel
theorem dX7_carryAll_127 : decode cX7_carryAll 127 = .ok (.aload_n 0, 1) := by decide +kernel
theorem dX7_carryAll_128 : decode cX7_carryAll 128 = .ok (.getfield 176, 3) := by decide +kernel
theorem dX7_carryAll_131 : decode cX7_carryAll 131 = .ok (.invokevirtual 317, 3) := by decide +kernel
theorem dX7_carryAll_134 : decode cX7_carryAll 134 = .ok (.putfield 176, 3) := by decide +kernel
theorem dX7_carryAll_137 : decode cX7_carryAll 137 = .ok (.aload_n 0, 1) := by decide +kernel
theorem dX7_carryAll_138 : decode cX7_carryAll 138 = .ok (.aload_n 0, 1) := by decide +kernel
theorem dX7_carryAll_139 : decode cX7_carryAll 139 = .ok (.aload_n 0, 1) := by decide +kernel
theorem dX7_carryAll_140 : decode cX7_carryAll 140 = .ok (.getfield 69, 3) := by decide +kernel
theorem dX7_carryAll_143 : decode cX7_carryAll 143 = .ok (.invokevirtual 317, 3) := by decide +kernel
theorem dX7_carryAll_146 : decode cX7_carryAll 146 = .ok (.putfield 69, 3) := by decide +kernel
theorem dX7_carryAll_149 : decode cX7_carryAll 149 = .ok (.iconst 0, 1) := by decide +kernel
theorem dX7_carryAll_150 : decode cX7_carryAll 150 = .ok (.istore_n 1, 1) := by decide +kernel
theorem dX7_carryAll_151 : decode cX7_carryAll 151 = .ok (.iload_n 1, 1) := by decide +kernel
theorem dX7_carryAll_152 : decode cX7_carryAll 152 = .ok (.bipush 8, 2) := by decide +kernel
theorem dX7_carryAll_154 : decode cX7_carryAll 154 = .ok (.if_icmp .ge 137, 3) := by decide +kernel
theorem dX7_carryAll_157 : decode cX7_carryAll 157 = .ok (.aload_n 0, 1) := by decide +kernel
theorem dX7_carryAll_158 : decode cX7_carryAll 158 = .ok (.getfield 7, 3) := by decide +kernel
theorem dX7_carryAll_161 : decode cX7_carryAll 161 = .ok (.iload_n 1, 1) := by decide +kernel
theorem dX7_carryAll_162 : decode cX7_carryAll 162 = .ok (.aload_n 0, 1) := by decide +kernel
theorem dX7_carryAll_163 : decode cX7_carryAll 163 = .ok (.aload_n 0, 1) := by decide +kernel
theorem dX7_carryAll_164 : decode cX7_carryAll 164 = .ok (.getfield 7, 3) := by decide +kernel
theorem dX7_carryAll_167 : decode cX7_carryAll 167 = .ok (.iload_n 1, 1) := by decide +kernel
theorem dX7_carryAll_168 : decode cX7_carryAll 168 = .ok (.iaload, 1) := by decide +kernel
theorem dX7_carryAll_169 : decode cX7_carryAll 169 = .ok (.invokevirtual 317, 3) := by decide +kernel
theorem dX7_carryAll_172 : decode cX7_carryAll 172 = .ok (.iastore, 1) := by decide +kernel
theorem dX7_carryAll_173 : decode cX7_carryAll 173 = .ok (.aload_n 0, 1) := by decide +kernel
theorem dX7_carryAll_174 : decode cX7_carryAll 174 = .ok (.getfield 13, 3) := by decide +kernel
theorem dX7_carryAll_177 : decode cX7_carryAll 177 = .ok (.iload_n 1, 1) := by decide +kernel
theorem dX7_carryAll_178 : decode cX7_carryAll 178 = .ok (.aload_n 0, 1) := by decide +kernel
theorem dX7_carryAll_179 : decode cX7_carryAll 179 = .ok (.aload_n 0, 1) := by decide +kernel
theorem dX7_carryAll_180 : decode cX7_carryAll 180 = .ok (.getfield 13, 3) := by decide +kernel
theorem dX7_carryAll_183 : decode cX7_carryAll 183 = .ok (.iload_n 1, 1) := by decide +kernel
theorem dX7_carryAll_184 : decode cX7_carryAll 184 = .ok (.iaload, 1) := by decide +kernel
theorem dX7_carryAll_185 : decode cX7_carryAll 185 = .ok (.invokevirtual 317, 3) := by decide +kernel
theorem dX7_carryAll_188 : decode cX7_carryAll 188 = .ok (.iastore, 1) := by decide +kernel
theorem dX7_carryAll_189 : decode cX7_carryAll 189 = .ok (.aload_n 0, 1) := by decide +kernel
theorem dX7_carryAll_190 : decode cX7_carryAll 190 = .ok (.getfield 16, 3) := by decide +kernel
theorem dX7_carryAll_193 : decode cX7_carryAll 193 = .ok (.iload_n 1, 1) := by decide +kernel
theorem dX7_carryAll_194 : decode cX7_carryAll 194 = .ok (.aload_n 0, 1) := by decide +kernel
theorem dX7_carryAll_195 : decode cX7_carryAll 195 = .ok (.aload_n 0, 1) := by decide +kernel
theorem dX7_carryAll_196 : decode cX7_carryAll 196 = .ok (.getfield 16, 3) := by decide +kernel
theorem dX7_carryAll_199 : decode cX7_carryAll 199 = .ok (.iload_n 1, 1) := by decide +kernel
theorem dX7_carryAll_200 : decode cX7_carryAll 200 = .ok (.iaload, 1) := by decide +kernel
theorem dX7_carryAll_201 : decode cX7_carryAll 201 = .ok (.invokevirtual 317, 3) := by decide +kernel
theorem dX7_carryAll_204 : decode cX7_carryAll 204 = .ok (.iastore, 1) := by decide +kernel
theorem dX7_carryAll_205 : decode cX7_carryAll 205 = .ok (.aload_n 0, 1) := by decide +kernel
theorem dX7_carryAll_206 : decode cX7_carryAll 206 = .ok (.getfield 19, 3) := by decide +kernel
theorem dX7_carryAll_209 : decode cX7_carryAll 209 = .ok (.iload_n 1, 1) := by decide +kernel
theorem dX7_carryAll_210 : decode cX7_carryAll 210 = .ok (.aload_n 0, 1) := by decide +kernel
theorem dX7_carryAll_211 : decode cX7_carryAll 211 = .ok (.aload_n 0, 1) := by decide +kernel
theorem dX7_carryAll_212 : decode cX7_carryAll 212 = .ok (.getfield 19, 3) := by decide +kernel
theorem dX7_carryAll_215 : decode cX7_carryAll 215 = .ok (.iload_n 1, 1) := by decide +kernel
theorem dX7_carryAll_216 : decode cX7_carryAll 216 = .ok (.iaload, 1) := by decide +kernel
theorem dX7_carryAll_217 : decode cX7_carryAll 217 = .ok (.invokevirtual 317, 3) := by decide +kernel
theorem dX7_carryAll_220 : decode cX7_carryAll 220 = .ok (.iastore, 1) := by decide +kernel
theorem dX7_carryAll_221 : decode cX7_carryAll 221 = .ok (.aload_n 0, 1) := by decide +kernel
theorem dX7_carryAll_222 : decode cX7_carryAll 222 = .ok (.getfield 22, 3) := by decide +kernel
theorem dX7_carryAll_225 : decode cX7_carryAll 225 = .ok (.iload_n 1, 1) := by decide +kernel
theorem dX7_carryAll_226 : decode cX7_carryAll 226 = .ok (.aload_n 0, 1) := by decide +kernel
theorem dX7_carryAll_227 : decode cX7_carryAll 227 = .ok (.aload_n 0, 1) := by decide +kernel
theorem dX7_carryAll_228 : decode cX7_carryAll 228 = .ok (.getfield 22, 3) := by decide +kernel
theorem dX7_carryAll_231 : decode cX7_carryAll 231 = .ok (.iload_n 1, 1) := by decide +kernel
theorem dX7_carryAll_232 : decode cX7_carryAll 232 = .ok (.iaload, 1) := by decide +kernel
theorem dX7_carryAll_233 : decode cX7_carryAll 233 = .ok (.invokevirtual 317, 3) := by decide +kernel
theorem dX7_carryAll_236 : decode cX7_carryAll 236 = .ok (.iastore, 1) := by decide +kernel
theorem dX7_carryAll_237 : decode cX7_carryAll 237 = .ok (.aload_n 0, 1) := by decide +kernel
theorem dX7_carryAll_238 : decode cX7_carryAll 238 = .ok (.getfield 50, 3) := by decide +kernel
theorem dX7_carryAll_241 : decode cX7_carryAll 241 = .ok (.iload_n 1, 1) := by decide +kernel
theorem dX7_carryAll_242 : decode cX7_carryAll 242 = .ok (.aload_n 0, 1) := by decide +kernel
theorem dX7_carryAll_243 : decode cX7_carryAll 243 = .ok (.aload_n 0, 1) := by decide +kernel
theorem dX7_carryAll_244 : decode cX7_carryAll 244 = .ok (.getfield 50, 3) := by decide +kernel
theorem dX7_carryAll_247 : decode cX7_carryAll 247 = .ok (.iload_n 1, 1) := by decide +kernel
theorem dX7_carryAll_248 : decode cX7_carryAll 248 = .ok (.iaload, 1) := by decide +kernel
theorem dX7_carryAll_249 : decode cX7_carryAll 249 = .ok (.invokevirtual 317, 3) := by decide +kernel
theorem dX7_carryAll_252 : decode cX7_carryAll 252 = .ok (.iastore, 1) := by decide +kernel
theorem dX7_carryAll_253 : decode cX7_carryAll 253 = .ok (.aload_n 0, 1) := by decide +kernel
theorem dX7_carryAll_254 : decode cX7_carryAll 254 = .ok (.getfield 53, 3) := by decide +kernel
theorem dX7_carryAll_257 : decode cX7_carryAll 257 = .ok (.iload_n 1, 1) := by decide +kernel
theorem dX7_carryAll_258 : decode cX7_carryAll 258 = .ok (.aload_n 0, 1) := by decide +kernel
theorem dX7_carryAll_259 : decode cX7_carryAll 259 = .ok (.aload_n 0, 1) := by decide +kernel
theorem dX7_carryAll_260 : decode cX7_carryAll 260 = .ok (.getfield 53, 3) := by decide +kernel
theorem dX7_carryAll_263 : decode cX7_carryAll 263 = .ok (.iload_n 1, 1) := by decide +kernel
theorem dX7_carryAll_264 : decode cX7_carryAll 264 = .ok (.iaload, 1) := by decide +kernel
theorem dX7_carryAll_265 : decode cX7_carryAll 265 = .ok (.invokevirtual 317, 3) := by decide +kernel
theorem dX7_carryAll_268 : decode cX7_carryAll 268 = .ok (.iastore, 1) := by decide +kernel
theorem dX7_carryAll_269 : decode cX7_carryAll 269 = .ok (.aload_n 0, 1) := by decide +kernel
theorem dX7_carryAll_270 : decode cX7_carryAll 270 = .ok (.getfield 56, 3) := by decide +kernel
theorem dX7_carryAll_273 : decode cX7_carryAll 273 = .ok (.iload_n 1, 1) := by decide +kernel
theorem dX7_carryAll_274 : decode cX7_carryAll 274 = .ok (.aload_n 0, 1) := by decide +kernel
theorem dX7_carryAll_275 : decode cX7_carryAll 275 = .ok (.aload_n 0, 1) := by decide +kernel
theorem dX7_carryAll_276 : decode cX7_carryAll 276 = .ok (.getfield 56, 3) := by decide +kernel
theorem dX7_carryAll_279 : decode cX7_carryAll 279 = .ok (.iload_n 1, 1) := by decide +kernel
theorem dX7_carryAll_280 : decode cX7_carryAll 280 = .ok (.iaload, 1) := by decide +kernel
theorem dX7_carryAll_281 : decode cX7_carryAll 281 = .ok (.invokevirtual 317, 3) := by decide +kernel
theorem dX7_carryAll_284 : decode cX7_carryAll 284 = .ok (.iastore, 1) := by decide +kernel
theorem dX7_carryAll_285 : decode cX7_carryAll 285 = .ok (.iinc 1 1, 3) := by decide +kernel
theorem dX7_carryAll_288 : decode cX7_carryAll 288 = .ok (.goto (-137), 3) := by decide +kernel
theorem dX7_carryAll_291 : decode cX7_carryAll 291 = .ok (.iconst 0, 1) := by decide +kernel
theorem dX7_carryAll_292 : decode cX7_carryAll 292 = .ok (.istore_n 1, 1) := by decide +kernel
theorem dX7_carryAll_293 : decode cX7_carryAll 293 = .ok (.iload_n 1, 1) := by decide +kernel
theorem dX7_carryAll_294 : decode cX7_carryAll 294 = .ok (.bipush 16, 2) := by decide +kernel
theorem dX7_carryAll_296 : decode cX7_carryAll 296 = .ok (.if_icmp .ge 41, 3) := by decide +kernel
theorem dX7_carryAll_299 : decode cX7_carryAll 299 = .ok (.aload_n 0, 1) := by decide +kernel
theorem dX7_carryAll_300 : decode cX7_carryAll 300 = .ok (.getfield 25, 3) := by decide +kernel
theorem dX7_carryAll_303 : decode cX7_carryAll 303 = .ok (.iload_n 1, 1) := by decide +kernel
theorem dX7_carryAll_304 : decode cX7_carryAll 304 = .ok (.aload_n 0, 1) := by decide +kernel
theorem dX7_carryAll_305 : decode cX7_carryAll 305 = .ok (.aload_n 0, 1) := by decide +kernel
theorem dX7_carryAll_306 : decode cX7_carryAll 306 = .ok (.getfield 25, 3) := by decide +kernel
theorem dX7_carryAll_309 : decode cX7_carryAll 309 = .ok (.iload_n 1, 1) := by decide +kernel
theorem dX7_carryAll_310 : decode cX7_carryAll 310 = .ok (.iaload, 1) := by decide +kernel
theorem dX7_carryAll_311 : decode cX7_carryAll 311 = .ok (.invokevirtual 317, 3) := by decide +kernel
theorem dX7_carryAll_314 : decode cX7_carryAll 314 = .ok (.iastore, 1) := by decide +kernel
theorem dX7_carryAll_315 : decode cX7_carryAll 315 = .ok (.aload_n 0, 1) := by decide +kernel
theorem dX7_carryAll_316 : decode cX7_carryAll 316 = .ok (.getfield 28, 3) := by decide +kernel
theorem dX7_carryAll_319 : decode cX7_carryAll 319 = .ok (.iload_n 1, 1) := by decide +kernel
theorem dX7_carryAll_320 : decode cX7_carryAll 320 = .ok (.aload_n 0, 1) := by decide +kernel
theorem dX7_carryAll_321 : decode cX7_carryAll 321 = .ok (.aload_n 0, 1) := by decide +kernel
theorem dX7_carryAll_322 : decode cX7_carryAll 322 = .ok (.getfield 28, 3) := by decide +kernel
theorem dX7_carryAll_325 : decode cX7_carryAll 325 = .ok (.iload_n 1, 1) := by decide +kernel
theorem dX7_carryAll_326 : decode cX7_carryAll 326 = .ok (.iaload, 1) := by decide +kernel
theorem dX7_carryAll_327 : decode cX7_carryAll 327 = .ok (.invokevirtual 317, 3) := by decide +kernel
theorem dX7_carryAll_330 : decode cX7_carryAll 330 = .ok (.iastore, 1) := by decide +kernel
theorem dX7_carryAll_331 : decode cX7_carryAll 331 = .ok (.iinc 1 1, 3) := by decide +kernel
theorem dX7_carryAll_334 : decode cX7_carryAll 334 = .ok (.goto (-41), 3) := by decide +kernel
theorem dX7_carryAll_337 : decode cX7_carryAll 337 = .ok (.iconst 0, 1) := by decide +kernel
theorem dX7_carryAll_338 : decode cX7_carryAll 338 = .ok (.istore_n 1, 1) := by decide +kernel
theorem dX7_carryAll_339 : decode cX7_carryAll 339 = .ok (.iload_n 1, 1) := by decide +kernel
theorem dX7_carryAll_340 : decode cX7_carryAll 340 = .ok (.bipush 24, 2) := by decide +kernel
theorem dX7_carryAll_342 : decode cX7_carryAll 342 = .ok (.if_icmp .ge 122, 3) := by decide +kernel
theorem dX7_carryAll_345 : decode cX7_carryAll 345 = .ok (.aload_n 0, 1) := by decide +kernel
theorem dX7_carryAll_346 : decode cX7_carryAll 346 = .ok (.getfield 31, 3) := by decide +kernel
theorem dX7_carryAll_349 : decode cX7_carryAll 349 = .ok (.iload_n 1, 1) := by decide +kernel
theorem dX7_carryAll_350 : decode cX7_carryAll 350 = .ok (.aload_n 0, 1) := by decide +kernel
theorem dX7_carryAll_351 : decode cX7_carryAll 351 = .ok (.aload_n 0, 1) := by decide +kernel
theorem dX7_carryAll_352 : decode cX7_carryAll 352 = .ok (.getfield 31, 3) := by decide +kernel
theorem dX7_carryAll_355 : decode cX7_carryAll 355 = .ok (.iload_n 1, 1) := by decide +kernel
theorem dX7_carryAll_356 : decode cX7_carryAll 356 = .ok (.iaload, 1) := by decide +kernel
theorem dX7_carryAll_357 : decode cX7_carryAll 357 = .ok (.invokevirtual 317, 3) := by decide +kernel
theorem dX7_carryAll_360 : decode cX7_carryAll 360 = .ok (.iastore, 1) := by decide +kernel
theorem dX7_carryAll_361 : decode cX7_carryAll 361 = .ok (.aload_n 0, 1) := by decide +kernel
theorem dX7_carryAll_362 : decode cX7_carryAll 362 = .ok (.getfield 34, 3) := by decide +kernel
theorem dX7_carryAll_365 : decode cX7_carryAll 365 = .ok (.iload_n 1, 1) := by decide +kernel
theorem dX7_carryAll_366 : decode cX7_carryAll 366 = .ok (.aload_n 0, 1) := by decide +kernel
theorem dX7_carryAll_367 : decode cX7_carryAll 367 = .ok (.aload_n 0, 1) := by decide +kernel
theorem dX7_carryAll_368 : decode cX7_carryAll 368 = .ok (.getfield 34, 3) := by decide +kernel
theorem dX7_carryAll_371 : decode cX7_carryAll 371 = .ok (.iload_n 1, 1) := by decide +kernel
theorem dX7_carryAll_372 : decode cX7_carryAll 372 = .ok (.iaload, 1) := by decide +kernel
theorem dX7_carryAll_373 : decode cX7_carryAll 373 = .ok (.invokevirtual 317, 3) := by decide +kernel
theorem dX7_carryAll_376 : decode cX7_carryAll 376 = .ok (.iastore, 1) := by decide +kernel
theorem dX7_carryAll_377 : decode cX7_carryAll 377 = .ok (.aload_n 0, 1) := by decide +kernel
theorem dX7_carryAll_378 : decode cX7_carryAll 378 = .ok (.getfield 37, 3) := by decide +kernel
theorem dX7_carryAll_381 : decode cX7_carryAll 381 = .ok (.iload_n 1, 1) := by decide +kernel
theorem dX7_carryAll_382 : decode cX7_carryAll 382 = .ok (.aload_n 0, 1) := by decide +kernel
theorem dX7_carryAll_383 : decode cX7_carryAll 383 = .ok (.aload_n 0, 1) := by decide +kernel
theorem dX7_carryAll_384 : decode cX7_carryAll 384 = .ok (.getfield 37, 3) := by decide +kernel
theorem dX7_carryAll_387 : decode cX7_carryAll 387 = .ok (.iload_n 1, 1) := by decide +kernel
theorem dX7_carryAll_388 : decode cX7_carryAll 388 = .ok (.iaload, 1) := by decide +kernel
theorem dX7_carryAll_389 : decode cX7_carryAll 389 = .ok (.invokevirtual 317, 3) := by decide +kernel
theorem dX7_carryAll_392 : decode cX7_carryAll 392 = .ok (.iastore, 1) := by decide +kernel
theorem dX7_carryAll_393 : decode cX7_carryAll 393 = .ok (.aload_n 0, 1) := by decide +kernel
theorem dX7_carryAll_394 : decode cX7_carryAll 394 = .ok (.getfield 40, 3) := by decide +kernel
theorem dX7_carryAll_397 : decode cX7_carryAll 397 = .ok (.iload_n 1, 1) := by decide +kernel
theorem dX7_carryAll_398 : decode cX7_carryAll 398 = .ok (.aload_n 0, 1) := by decide +kernel
theorem dX7_carryAll_399 : decode cX7_carryAll 399 = .ok (.aload_n 0, 1) := by decide +kernel
theorem dX7_carryAll_400 : decode cX7_carryAll 400 = .ok (.getfield 40, 3) := by decide +kernel
theorem dX7_carryAll_403 : decode cX7_carryAll 403 = .ok (.iload_n 1, 1) := by decide +kernel
theorem dX7_carryAll_404 : decode cX7_carryAll 404 = .ok (.iaload, 1) := by decide +kernel
theorem dX7_carryAll_405 : decode cX7_carryAll 405 = .ok (.invokevirtual 317, 3) := by decide +kernel
theorem dX7_carryAll_408 : decode cX7_carryAll 408 = .ok (.iastore, 1) := by decide +kernel
theorem dX7_carryAll_409 : decode cX7_carryAll 409 = .ok (.aload_n 0, 1) := by decide +kernel
theorem dX7_carryAll_410 : decode cX7_carryAll 410 = .ok (.getfield 43, 3) := by decide +kernel
theorem dX7_carryAll_413 : decode cX7_carryAll 413 = .ok (.iload_n 1, 1) := by decide +kernel
theorem dX7_carryAll_414 : decode cX7_carryAll 414 = .ok (.aload_n 0, 1) := by decide +kernel
theorem dX7_carryAll_415 : decode cX7_carryAll 415 = .ok (.aload_n 0, 1) := by decide +kernel
theorem dX7_carryAll_416 : decode cX7_carryAll 416 = .ok (.getfield 43, 3) := by decide +kernel
theorem dX7_carryAll_419 : decode cX7_carryAll 419 = .ok (.iload_n 1, 1) := by decide +kernel
theorem dX7_carryAll_420 : decode cX7_carryAll 420 = .ok (.iaload, 1) := by decide +kernel
theorem dX7_carryAll_421 : decode cX7_carryAll 421 = .ok (.invokevirtual 317, 3) := by decide +kernel
theorem dX7_carryAll_424 : decode cX7_carryAll 424 = .ok (.iastore, 1) := by decide +kernel
theorem dX7_carryAll_425 : decode cX7_carryAll 425 = .ok (.aload_n 0, 1) := by decide +kernel
theorem dX7_carryAll_426 : decode cX7_carryAll 426 = .ok (.getfield 46, 3) := by decide +kernel
theorem dX7_carryAll_429 : decode cX7_carryAll 429 = .ok (.iload_n 1, 1) := by decide +kernel
theorem dX7_carryAll_430 : decode cX7_carryAll 430 = .ok (.aload_n 0, 1) := by decide +kernel
theorem dX7_carryAll_431 : decode cX7_carryAll 431 = .ok (.aload_n 0, 1) := by decide +kernel
theorem dX7_carryAll_432 : decode cX7_carryAll 432 = .ok (.getfield 46, 3) := by decide +kernel
theorem dX7_carryAll_435 : decode cX7_carryAll 435 = .ok (.iload_n 1, 1) := by decide +kernel
theorem dX7_carryAll_436 : decode cX7_carryAll 436 = .ok (.baload, 1) := by decide +kernel
theorem dX7_carryAll_437 : decode cX7_carryAll 437 = .ok (.ifCond .eq 7, 3) := by decide +kernel
theorem dX7_carryAll_440 : decode cX7_carryAll 440 = .ok (.iconst 1, 1) := by decide +kernel
theorem dX7_carryAll_441 : decode cX7_carryAll 441 = .ok (.goto 4, 3) := by decide +kernel
theorem dX7_carryAll_444 : decode cX7_carryAll 444 = .ok (.iconst 0, 1) := by decide +kernel
theorem dX7_carryAll_445 : decode cX7_carryAll 445 = .ok (.invokevirtual 317, 3) := by decide +kernel
theorem dX7_carryAll_448 : decode cX7_carryAll 448 = .ok (.iconst 1, 1) := by decide +kernel
theorem dX7_carryAll_449 : decode cX7_carryAll 449 = .ok (.if_icmp .ne 7, 3) := by decide +kernel
theorem dX7_carryAll_452 : decode cX7_carryAll 452 = .ok (.iconst 1, 1) := by decide +kernel
theorem dX7_carryAll_453 : decode cX7_carryAll 453 = .ok (.goto 4, 3) := by decide +kernel
theorem dX7_carryAll_456 : decode cX7_carryAll 456 = .ok (.iconst 0, 1) := by decide +kernel
theorem dX7_carryAll_457 : decode cX7_carryAll 457 = .ok (.bastore, 1) := by decide +kernel
theorem dX7_carryAll_458 : decode cX7_carryAll 458 = .ok (.iinc 1 1, 3) := by decide +kernel
theorem dX7_carryAll_461 : decode cX7_carryAll 461 = .ok (.goto (-122), 3) := by decide +kernel
theorem dX7_carryAll_464 : decode cX7_carryAll 464 = .ok (.iconst 0, 1) := by decide +kernel
theorem dX7_carryAll_465 : decode cX7_carryAll 465 = .ok (.istore_n 1, 1) := by decide +kernel
theorem dX7_carryAll_466 : decode cX7_carryAll 466 = .ok (.iload_n 1, 1) := by decide +kernel
theorem dX7_carryAll_467 : decode cX7_carryAll 467 = .ok (.bipush 28, 2) := by decide +kernel
theorem dX7_carryAll_469 : decode cX7_carryAll 469 = .ok (.if_icmp .ge 25, 3) := by decide +kernel
theorem dX7_carryAll_472 : decode cX7_carryAll 472 = .ok (.aload_n 0, 1) := by decide +kernel
theorem dX7_carryAll_473 : decode cX7_carryAll 473 = .ok (.getfield 59, 3) := by decide +kernel
theorem dX7_carryAll_476 : decode cX7_carryAll 476 = .ok (.iload_n 1, 1) := by decide +kernel
theorem dX7_carryAll_477 : decode cX7_carryAll 477 = .ok (.aload_n 0, 1) := by decide +kernel
theorem dX7_carryAll_478 : decode cX7_carryAll 478 = .ok (.aload_n 0, 1) := by decide +kernel
theorem dX7_carryAll_479 : decode cX7_carryAll 479 = .ok (.getfield 59, 3) := by decide +kernel
theorem dX7_carryAll_482 : decode cX7_carryAll 482 = .ok (.iload_n 1, 1) := by decide +kernel
theorem dX7_carryAll_483 : decode cX7_carryAll 483 = .ok (.iaload, 1) := by decide +kernel
theorem dX7_carryAll_484 : decode cX7_carryAll 484 = .ok (.invokevirtual 317, 3) := by decide +kernel
theorem dX7_carryAll_487 : decode cX7_carryAll 487 = .ok (.iastore, 1) := by decide +kernel
theorem dX7_carryAll_488 : decode cX7_carryAll 488 = .ok (.iinc 1 1, 3) := by decide +kernel
theorem dX7_carryAll_491 : decode cX7_carryAll 491 = .ok (.goto (-25), 3) := by decide +kernel
theorem dX7_carryAll_494 : decode cX7_carryAll 494 = .ok (.return_, 1) := by decide +kernel
theorem dX7_image_0 : decode cX7_image 0 = .ok (.aload_n 0, 1) := by decide +kernel
theorem dX7_image_1 : decode cX7_image 1 = .ok (.iconst 1, 1) := by decide +kernel
theorem dX7_image_2 : decode cX7_image 2 = .ok (.putfield 320, 3) := by decide +kernel
theorem dX7_image_5 : decode cX7_image 5 = .ok (.aload_n 0, 1) := by decide +kernel
theorem dX7_image_6 : decode cX7_image 6 = .ok (.iconst 1, 1) := by decide +kernel
theorem dX7_image_7 : decode cX7_image 7 = .ok (.putfield 311, 3) := by decide +kernel
theorem dX7_image_10 : decode cX7_image 10 = .ok (.aload_n 0, 1) := by decide +kernel
theorem dX7_image_11 : decode cX7_image 11 = .ok (.invokevirtual 323, 3) := by decide +kernel
theorem dX7_image_14 : decode cX7_image 14 = .ok (.aload_n 0, 1) := by decide +kernel
theorem dX7_image_15 : decode cX7_image 15 = .ok (.getfield 111, 3) := by decide +kernel
theorem dX7_image_18 : decode cX7_image 18 = .ok (.ireturn, 1) := by decide +kernel
theorem dX7_restore_0 : decode cX7_restore 0 = .ok (.aload_n 0, 1) := by decide +kernel
theorem dX7_restore_1 : decode cX7_restore 1 = .ok (.getfield 320, 3) := by decide +kernel
theorem dX7_restore_4 : decode cX7_restore 4 = .ok (.ifCond .ne 10, 3) := by decide +kernel
theorem dX7_restore_7 : decode cX7_restore 7 = .ok (.aload_n 0, 1) := by decide +kernel
theorem dX7_restore_8 : decode cX7_restore 8 = .ok (.bipush (-3), 2) := by decide +kernel
theorem dX7_restore_10 : decode cX7_restore 10 = .ok (.invokevirtual 118, 3) := by decide +kernel
theorem dX7_restore_13 : decode cX7_restore 13 = .ok (.ireturn, 1) := by decide +kernel
theorem dX7_restore_14 : decode cX7_restore 14 = .ok (.aload_n 0, 1) := by decide +kernel
theorem dX7_restore_15 : decode cX7_restore 15 = .ok (.iconst 0, 1) := by decide +kernel
theorem dX7_restore_16 : decode cX7_restore 16 = .ok (.putfield 311, 3) := by decide +kernel
theorem dX7_restore_19 : decode cX7_restore 19 = .ok (.aload_n 0, 1) := by decide +kernel
theorem dX7_restore_20 : decode cX7_restore 20 = .ok (.invokevirtual 323, 3) := by decide +kernel
theorem dX7_restore_23 : decode cX7_restore 23 = .ok (.aload_n 0, 1) := by decide +kernel
theorem dX7_restore_24 : decode cX7_restore 24 = .ok (.getfield 111, 3) := by decide +kernel
theorem dX7_restore_27 : decode cX7_restore 27 = .ok (.ireturn, 1) := by decide +kernel
theorem dX7_count_0 : decode cX7_count 0 = .ok (.iload_n 1, 1) := by decide +kernel
theorem dX7_count_1 : decode cX7_count 1 = .ok (.tableswitch 138 0 9 #[55, 60, 65, 70, 75, 113, 118, 123, 128, 133], 55) := by decide +kernel
theorem dX7_count_56 : decode cX7_count 56 = .ok (.aload_n 0, 1) := by decide +kernel
theorem dX7_count_57 : decode cX7_count 57 = .ok (.getfield 111, 3) := by decide +kernel
theorem dX7_count_60 : decode cX7_count 60 = .ok (.ireturn, 1) := by decide +kernel
theorem dX7_count_61 : decode cX7_count 61 = .ok (.aload_n 0, 1) := by decide +kernel
theorem dX7_count_62 : decode cX7_count 62 = .ok (.getfield 132, 3) := by decide +kernel
theorem dX7_count_65 : decode cX7_count 65 = .ok (.ireturn, 1) := by decide +kernel
theorem dX7_count_66 : decode cX7_count 66 = .ok (.aload_n 0, 1) := by decide +kernel
theorem dX7_count_67 : decode cX7_count 67 = .ok (.getfield 147, 3) := by decide +kernel
theorem dX7_count_70 : decode cX7_count 70 = .ok (.ireturn, 1) := by decide +kernel
theorem dX7_count_71 : decode cX7_count 71 = .ok (.aload_n 0, 1) := by decide +kernel
theorem dX7_count_72 : decode cX7_count 72 = .ok (.getfield 186, 3) := by decide +kernel
theorem dX7_count_75 : decode cX7_count 75 = .ok (.ireturn, 1) := by decide +kernel
theorem dX7_count_76 : decode cX7_count 76 = .ok (.iconst 0, 1) := by decide +kernel
theorem dX7_count_77 : decode cX7_count 77 = .ok (.istore_n 2, 1) := by decide +kernel
theorem dX7_count_78 : decode cX7_count 78 = .ok (.iconst 0, 1) := by decide +kernel
theorem dX7_count_79 : decode cX7_count 79 = .ok (.istore_n 3, 1) := by decide +kernel
theorem dX7_count_80 : decode cX7_count 80 = .ok (.iload_n 3, 1) := by decide +kernel
theorem dX7_count_81 : decode cX7_count 81 = .ok (.iconst 2, 1) := by decide +kernel
theorem dX7_count_82 : decode cX7_count 82 = .ok (.aload_n 0, 1) := by decide +kernel
theorem dX7_count_83 : decode cX7_count 83 = .ok (.getfield 111, 3) := by decide +kernel
theorem dX7_count_86 : decode cX7_count 86 = .ok (.imul, 1) := by decide +kernel
theorem dX7_count_87 : decode cX7_count 87 = .ok (.if_icmp .ge 25, 3) := by decide +kernel
theorem dX7_count_90 : decode cX7_count 90 = .ok (.iload_n 2, 1) := by decide +kernel
theorem dX7_count_91 : decode cX7_count 91 = .ok (.aload_n 0, 1) := by decide +kernel
theorem dX7_count_92 : decode cX7_count 92 = .ok (.getfield 25, 3) := by decide +kernel
theorem dX7_count_95 : decode cX7_count 95 = .ok (.iload_n 3, 1) := by decide +kernel
theorem dX7_count_96 : decode cX7_count 96 = .ok (.iaload, 1) := by decide +kernel
theorem dX7_count_97 : decode cX7_count 97 = .ok (.aload_n 0, 1) := by decide +kernel
theorem dX7_count_98 : decode cX7_count 98 = .ok (.getfield 28, 3) := by decide +kernel
theorem dX7_count_101 : decode cX7_count 101 = .ok (.iload_n 3, 1) := by decide +kernel
theorem dX7_count_102 : decode cX7_count 102 = .ok (.iaload, 1) := by decide +kernel
theorem dX7_count_103 : decode cX7_count 103 = .ok (.iadd, 1) := by decide +kernel
theorem dX7_count_104 : decode cX7_count 104 = .ok (.iadd, 1) := by decide +kernel
theorem dX7_count_105 : decode cX7_count 105 = .ok (.istore_n 2, 1) := by decide +kernel
theorem dX7_count_106 : decode cX7_count 106 = .ok (.iinc 3 1, 3) := by decide +kernel
theorem dX7_count_109 : decode cX7_count 109 = .ok (.goto (-29), 3) := by decide +kernel
theorem dX7_count_112 : decode cX7_count 112 = .ok (.iload_n 2, 1) := by decide +kernel
theorem dX7_count_113 : decode cX7_count 113 = .ok (.ireturn, 1) := by decide +kernel
theorem dX7_count_114 : decode cX7_count 114 = .ok (.aload_n 0, 1) := by decide +kernel
theorem dX7_count_115 : decode cX7_count 115 = .ok (.getfield 194, 3) := by decide +kernel
theorem dX7_count_118 : decode cX7_count 118 = .ok (.ireturn, 1) := by decide +kernel
theorem dX7_count_119 : decode cX7_count 119 = .ok (.aload_n 0, 1) := by decide +kernel
theorem dX7_count_120 : decode cX7_count 120 = .ok (.getfield 203, 3) := by decide +kernel
theorem dX7_count_123 : decode cX7_count 123 = .ok (.ireturn, 1) := by decide +kernel
theorem dX7_count_124 : decode cX7_count 124 = .ok (.aload_n 0, 1) := by decide +kernel
theorem dX7_count_125 : decode cX7_count 125 = .ok (.getfield 108, 3) := by decide +kernel
theorem dX7_count_128 : decode cX7_count 128 = .ok (.ireturn, 1) := by decide +kernel
theorem dX7_count_129 : decode cX7_count 129 = .ok (.aload_n 0, 1) := by decide +kernel
theorem dX7_count_130 : decode cX7_count 130 = .ok (.getfield 261, 3) := by decide +kernel
theorem dX7_count_133 : decode cX7_count 133 = .ok (.ireturn, 1) := by decide +kernel
theorem dX7_count_134 : decode cX7_count 134 = .ok (.aload_n 0, 1) := by decide +kernel
theorem dX7_count_135 : decode cX7_count 135 = .ok (.getfield 62, 3) := by decide +kernel
theorem dX7_count_138 : decode cX7_count 138 = .ok (.ireturn, 1) := by decide +kernel
theorem dX7_count_139 : decode cX7_count 139 = .ok (.iload_n 1, 1) := by decide +kernel
theorem dX7_count_140 : decode cX7_count 140 = .ok (.i2l, 1) := by decide +kernel
theorem dX7_count_141 : decode cX7_count 141 = .ok (.ldc2_w 326, 3) := by decide +kernel
theorem dX7_count_144 : decode cX7_count 144 = .ok (.ldc2_w 328, 3) := by decide +kernel
theorem dX7_count_147 : decode cX7_count 147 = .ok (.invokestatic 114, 3) := by decide +kernel
theorem dX7_count_150 : decode cX7_count 150 = .ok (.ifCond .eq 15, 3) := by decide +kernel
theorem dX7_count_153 : decode cX7_count 153 = .ok (.aload_n 0, 1) := by decide +kernel
theorem dX7_count_154 : decode cX7_count 154 = .ok (.getfield 78, 3) := by decide +kernel
theorem dX7_count_157 : decode cX7_count 157 = .ok (.iload_n 1, 1) := by decide +kernel
theorem dX7_count_158 : decode cX7_count 158 = .ok (.bipush 10, 2) := by decide +kernel
theorem dX7_count_160 : decode cX7_count 160 = .ok (.isub, 1) := by decide +kernel
theorem dX7_count_161 : decode cX7_count 161 = .ok (.iaload, 1) := by decide +kernel
theorem dX7_count_162 : decode cX7_count 162 = .ok (.goto 5, 3) := by decide +kernel
theorem dX7_count_165 : decode cX7_count 165 = .ok (.bipush (-9), 2) := by decide +kernel
theorem dX7_count_167 : decode cX7_count 167 = .ok (.ireturn, 1) := by decide +kernel
theorem dL_law_0 : decode cL_law 0 = .ok (.new 7, 3) := by decide +kernel
theorem dL_law_3 : decode cL_law 3 = .ok (.dup, 1) := by decide +kernel
theorem dL_law_4 : decode cL_law 4 = .ok (.invokespecial 9, 3) := by decide +kernel
theorem dL_law_7 : decode cL_law 7 = .ok (.astore_n 1, 1) := by decide +kernel
theorem dL_law_8 : decode cL_law 8 = .ok (.new 10, 3) := by decide +kernel
theorem dL_law_11 : decode cL_law 11 = .ok (.dup, 1) := by decide +kernel
theorem dL_law_12 : decode cL_law 12 = .ok (.invokespecial 12, 3) := by decide +kernel
theorem dL_law_15 : decode cL_law 15 = .ok (.astore_n 2, 1) := by decide +kernel
theorem dL_law_16 : decode cL_law 16 = .ok (.iconst 0, 1) := by decide +kernel
theorem dL_law_17 : decode cL_law 17 = .ok (.istore_n 3, 1) := by decide +kernel
theorem dL_law_18 : decode cL_law 18 = .ok (.iload_n 3, 1) := by decide +kernel
theorem dL_law_19 : decode cL_law 19 = .ok (.aload_n 0, 1) := by decide +kernel
theorem dL_law_20 : decode cL_law 20 = .ok (.arraylength, 1) := by decide +kernel
theorem dL_law_21 : decode cL_law 21 = .ok (.bipush 6, 2) := by decide +kernel
theorem dL_law_23 : decode cL_law 23 = .ok (.isub, 1) := by decide +kernel
theorem dL_law_24 : decode cL_law 24 = .ok (.if_icmp .gt 1072, 3) := by decide +kernel
theorem dL_law_27 : decode cL_law 27 = .ok (.aload_n 0, 1) := by decide +kernel
theorem dL_law_28 : decode cL_law 28 = .ok (.iload_n 3, 1) := by decide +kernel
theorem dL_law_29 : decode cL_law 29 = .ok (.iaload, 1) := by decide +kernel
theorem dL_law_30 : decode cL_law 30 = .ok (.bipush 31, 2) := by decide +kernel
theorem dL_law_32 : decode cL_law 32 = .ok (.iand, 1) := by decide +kernel
theorem dL_law_33 : decode cL_law 33 = .ok (.tableswitch 1057 0 28 #[131, 194, 207, 240, 283, 336, 385, 428, 461, 530, 589, 612, 635, 668, 681, 704, 728, 751, 774, 837, 860, 883, 906, 929, 962, 985, 1008, 1021, 1034], 131) := by decide +kernel
theorem dL_law_164 : decode cL_law 164 = .ok (.aload_n 1, 1) := by decide +kernel
theorem dL_law_165 : decode cL_law 165 = .ok (.aload_n 0, 1) := by decide +kernel
theorem dL_law_166 : decode cL_law 166 = .ok (.iload_n 3, 1) := by decide +kernel
theorem dL_law_167 : decode cL_law 167 = .ok (.iconst 1, 1) := by decide +kernel
theorem dL_law_168 : decode cL_law 168 = .ok (.iadd, 1) := by decide +kernel
theorem dL_law_169 : decode cL_law 169 = .ok (.iaload, 1) := by decide +kernel
theorem dL_law_170 : decode cL_law 170 = .ok (.aload_n 0, 1) := by decide +kernel
theorem dL_law_171 : decode cL_law 171 = .ok (.iload_n 3, 1) := by decide +kernel
theorem dL_law_172 : decode cL_law 172 = .ok (.iconst 2, 1) := by decide +kernel
theorem dL_law_173 : decode cL_law 173 = .ok (.iadd, 1) := by decide +kernel
theorem dL_law_174 : decode cL_law 174 = .ok (.iaload, 1) := by decide +kernel
theorem dL_law_175 : decode cL_law 175 = .ok (.i2l, 1) := by decide +kernel
theorem dL_law_176 : decode cL_law 176 = .ok (.bipush 32, 2) := by decide +kernel
theorem dL_law_178 : decode cL_law 178 = .ok (.lshl, 1) := by decide +kernel
theorem dL_law_179 : decode cL_law 179 = .ok (.aload_n 0, 1) := by decide +kernel
theorem dL_law_180 : decode cL_law 180 = .ok (.iload_n 3, 1) := by decide +kernel
theorem dL_law_181 : decode cL_law 181 = .ok (.iconst 3, 1) := by decide +kernel
theorem dL_law_182 : decode cL_law 182 = .ok (.iadd, 1) := by decide +kernel
theorem dL_law_183 : decode cL_law 183 = .ok (.iaload, 1) := by decide +kernel
theorem dL_law_184 : decode cL_law 184 = .ok (.i2l, 1) := by decide +kernel
theorem dL_law_185 : decode cL_law 185 = .ok (.ldc2_w 13, 3) := by decide +kernel
theorem dL_law_188 : decode cL_law 188 = .ok (.land, 1) := by decide +kernel
theorem dL_law_189 : decode cL_law 189 = .ok (.lor, 1) := by decide +kernel
theorem dL_law_190 : decode cL_law 190 = .ok (.invokevirtual 15, 3) := by decide +kernel
theorem dL_law_193 : decode cL_law 193 = .ok (.aload_n 2, 1) := by decide +kernel
theorem dL_law_194 : decode cL_law 194 = .ok (.aload_n 0, 1) := by decide +kernel
theorem dL_law_195 : decode cL_law 195 = .ok (.iload_n 3, 1) := by decide +kernel
theorem dL_law_196 : decode cL_law 196 = .ok (.iconst 1, 1) := by decide +kernel
theorem dL_law_197 : decode cL_law 197 = .ok (.iadd, 1) := by decide +kernel
theorem dL_law_198 : decode cL_law 198 = .ok (.iaload, 1) := by decide +kernel
theorem dL_law_199 : decode cL_law 199 = .ok (.aload_n 0, 1) := by decide +kernel
theorem dL_law_200 : decode cL_law 200 = .ok (.iload_n 3, 1) := by decide +kernel
theorem dL_law_201 : decode cL_law 201 = .ok (.iconst 2, 1) := by decide +kernel
theorem dL_law_202 : decode cL_law 202 = .ok (.iadd, 1) := by decide +kernel
theorem dL_law_203 : decode cL_law 203 = .ok (.iaload, 1) := by decide +kernel
theorem dL_law_204 : decode cL_law 204 = .ok (.i2l, 1) := by decide +kernel
theorem dL_law_205 : decode cL_law 205 = .ok (.bipush 32, 2) := by decide +kernel
theorem dL_law_207 : decode cL_law 207 = .ok (.lshl, 1) := by decide +kernel
theorem dL_law_208 : decode cL_law 208 = .ok (.aload_n 0, 1) := by decide +kernel
theorem dL_law_209 : decode cL_law 209 = .ok (.iload_n 3, 1) := by decide +kernel
theorem dL_law_210 : decode cL_law 210 = .ok (.iconst 3, 1) := by decide +kernel
end
section
theorem dL_law_211 : decode cL_law 211 = .ok (.iadd, 1) := by decide +kernel
theorem dL_law_212 : decode cL_law 212 = .ok (.iaload, 1) := by decide +kernel
theorem dL_law_213 : decode cL_law 213 = .ok (.i2l, 1) := by decide +kernel
theorem dL_law_214 : decode cL_law 214 = .ok (.ldc2_w 13, 3) := by decide +kernel
theorem dL_law_217 : decode cL_law 217 = .ok (.land, 1) := by decide +kernel
theorem dL_law_218 : decode cL_law 218 = .ok (.lor, 1) := by decide +kernel
theorem dL_law_219 : decode cL_law 219 = .ok (.invokevirtual 19, 3) := by decide +kernel
theorem dL_law_222 : decode cL_law 222 = .ok (.if_icmp .eq 868, 3) := by decide +kernel
theorem dL_law_225 : decode cL_law 225 = .ok (.iconst 0, 1) := by decide +kernel
theorem dL_law_226 : decode cL_law 226 = .ok (.ireturn, 1) := by decide +kernel
theorem dL_law_227 : decode cL_law 227 = .ok (.aload_n 1, 1) := by decide +kernel
theorem dL_law_228 : decode cL_law 228 = .ok (.invokevirtual 20, 3) := by decide +kernel
theorem dL_law_231 : decode cL_law 231 = .ok (.aload_n 2, 1) := by decide +kernel
theorem dL_law_232 : decode cL_law 232 = .ok (.invokevirtual 24, 3) := by decide +kernel
theorem dL_law_235 : decode cL_law 235 = .ok (.if_icmp .eq 855, 3) := by decide +kernel
theorem dL_law_238 : decode cL_law 238 = .ok (.iconst 0, 1) := by decide +kernel
theorem dL_law_239 : decode cL_law 239 = .ok (.ireturn, 1) := by decide +kernel
theorem dL_law_240 : decode cL_law 240 = .ok (.aload_n 1, 1) := by decide +kernel
theorem dL_law_241 : decode cL_law 241 = .ok (.aload_n 0, 1) := by decide +kernel
theorem dL_law_242 : decode cL_law 242 = .ok (.iload_n 3, 1) := by decide +kernel
theorem dL_law_243 : decode cL_law 243 = .ok (.iconst 1, 1) := by decide +kernel
theorem dL_law_244 : decode cL_law 244 = .ok (.iadd, 1) := by decide +kernel
theorem dL_law_245 : decode cL_law 245 = .ok (.iaload, 1) := by decide +kernel
theorem dL_law_246 : decode cL_law 246 = .ok (.aload_n 0, 1) := by decide +kernel
theorem dL_law_247 : decode cL_law 247 = .ok (.iload_n 3, 1) := by decide +kernel
theorem dL_law_248 : decode cL_law 248 = .ok (.iconst 2, 1) := by decide +kernel
theorem dL_law_249 : decode cL_law 249 = .ok (.iadd, 1) := by decide +kernel
theorem dL_law_250 : decode cL_law 250 = .ok (.iaload, 1) := by decide +kernel
theorem dL_law_251 : decode cL_law 251 = .ok (.invokevirtual 25, 3) := by decide +kernel
theorem dL_law_254 : decode cL_law 254 = .ok (.aload_n 2, 1) := by decide +kernel
theorem dL_law_255 : decode cL_law 255 = .ok (.aload_n 0, 1) := by decide +kernel
theorem dL_law_256 : decode cL_law 256 = .ok (.iload_n 3, 1) := by decide +kernel
theorem dL_law_257 : decode cL_law 257 = .ok (.iconst 1, 1) := by decide +kernel
theorem dL_law_258 : decode cL_law 258 = .ok (.iadd, 1) := by decide +kernel
theorem dL_law_259 : decode cL_law 259 = .ok (.iaload, 1) := by decide +kernel
theorem dL_law_260 : decode cL_law 260 = .ok (.aload_n 0, 1) := by decide +kernel
theorem dL_law_261 : decode cL_law 261 = .ok (.iload_n 3, 1) := by decide +kernel
theorem dL_law_262 : decode cL_law 262 = .ok (.iconst 2, 1) := by decide +kernel
theorem dL_law_263 : decode cL_law 263 = .ok (.iadd, 1) := by decide +kernel
theorem dL_law_264 : decode cL_law 264 = .ok (.iaload, 1) := by decide +kernel
theorem dL_law_265 : decode cL_law 265 = .ok (.invokevirtual 29, 3) := by decide +kernel
theorem dL_law_268 : decode cL_law 268 = .ok (.if_icmp .eq 822, 3) := by decide +kernel
theorem dL_law_271 : decode cL_law 271 = .ok (.iconst 0, 1) := by decide +kernel
theorem dL_law_272 : decode cL_law 272 = .ok (.ireturn, 1) := by decide +kernel
theorem dL_law_273 : decode cL_law 273 = .ok (.aload_n 1, 1) := by decide +kernel
theorem dL_law_274 : decode cL_law 274 = .ok (.aload_n 0, 1) := by decide +kernel
theorem dL_law_275 : decode cL_law 275 = .ok (.iload_n 3, 1) := by decide +kernel
theorem dL_law_276 : decode cL_law 276 = .ok (.iconst 1, 1) := by decide +kernel
theorem dL_law_277 : decode cL_law 277 = .ok (.iadd, 1) := by decide +kernel
theorem dL_law_278 : decode cL_law 278 = .ok (.iaload, 1) := by decide +kernel
theorem dL_law_279 : decode cL_law 279 = .ok (.aload_n 0, 1) := by decide +kernel
theorem dL_law_280 : decode cL_law 280 = .ok (.iload_n 3, 1) := by decide +kernel
theorem dL_law_281 : decode cL_law 281 = .ok (.iconst 2, 1) := by decide +kernel
theorem dL_law_282 : decode cL_law 282 = .ok (.iadd, 1) := by decide +kernel
theorem dL_law_283 : decode cL_law 283 = .ok (.iaload, 1) := by decide +kernel
theorem dL_law_284 : decode cL_law 284 = .ok (.aload_n 0, 1) := by decide +kernel
theorem dL_law_285 : decode cL_law 285 = .ok (.iload_n 3, 1) := by decide +kernel
theorem dL_law_286 : decode cL_law 286 = .ok (.iconst 3, 1) := by decide +kernel
theorem dL_law_287 : decode cL_law 287 = .ok (.iadd, 1) := by decide +kernel
theorem dL_law_288 : decode cL_law 288 = .ok (.iaload, 1) := by decide +kernel
theorem dL_law_289 : decode cL_law 289 = .ok (.invokevirtual 30, 3) := by decide +kernel
theorem dL_law_292 : decode cL_law 292 = .ok (.aload_n 2, 1) := by decide +kernel
theorem dL_law_293 : decode cL_law 293 = .ok (.aload_n 0, 1) := by decide +kernel
theorem dL_law_294 : decode cL_law 294 = .ok (.iload_n 3, 1) := by decide +kernel
theorem dL_law_295 : decode cL_law 295 = .ok (.iconst 1, 1) := by decide +kernel
theorem dL_law_296 : decode cL_law 296 = .ok (.iadd, 1) := by decide +kernel
theorem dL_law_297 : decode cL_law 297 = .ok (.iaload, 1) := by decide +kernel
theorem dL_law_298 : decode cL_law 298 = .ok (.aload_n 0, 1) := by decide +kernel
theorem dL_law_299 : decode cL_law 299 = .ok (.iload_n 3, 1) := by decide +kernel
theorem dL_law_300 : decode cL_law 300 = .ok (.iconst 2, 1) := by decide +kernel
theorem dL_law_301 : decode cL_law 301 = .ok (.iadd, 1) := by decide +kernel
theorem dL_law_302 : decode cL_law 302 = .ok (.iaload, 1) := by decide +kernel
theorem dL_law_303 : decode cL_law 303 = .ok (.aload_n 0, 1) := by decide +kernel
theorem dL_law_304 : decode cL_law 304 = .ok (.iload_n 3, 1) := by decide +kernel
theorem dL_law_305 : decode cL_law 305 = .ok (.iconst 3, 1) := by decide +kernel
theorem dL_law_306 : decode cL_law 306 = .ok (.iadd, 1) := by decide +kernel
theorem dL_law_307 : decode cL_law 307 = .ok (.iaload, 1) := by decide +kernel
theorem dL_law_308 : decode cL_law 308 = .ok (.invokevirtual 34, 3) := by decide +kernel
theorem dL_law_311 : decode cL_law 311 = .ok (.if_icmp .eq 779, 3) := by decide +kernel
theorem dL_law_314 : decode cL_law 314 = .ok (.iconst 0, 1) := by decide +kernel
theorem dL_law_315 : decode cL_law 315 = .ok (.ireturn, 1) := by decide +kernel
theorem dL_law_316 : decode cL_law 316 = .ok (.aload_n 1, 1) := by decide +kernel
theorem dL_law_317 : decode cL_law 317 = .ok (.aload_n 0, 1) := by decide +kernel
theorem dL_law_318 : decode cL_law 318 = .ok (.iload_n 3, 1) := by decide +kernel
theorem dL_law_319 : decode cL_law 319 = .ok (.iconst 1, 1) := by decide +kernel
theorem dL_law_320 : decode cL_law 320 = .ok (.iadd, 1) := by decide +kernel
theorem dL_law_321 : decode cL_law 321 = .ok (.iaload, 1) := by decide +kernel
theorem dL_law_322 : decode cL_law 322 = .ok (.aload_n 0, 1) := by decide +kernel
theorem dL_law_323 : decode cL_law 323 = .ok (.iload_n 3, 1) := by decide +kernel
theorem dL_law_324 : decode cL_law 324 = .ok (.iconst 2, 1) := by decide +kernel
theorem dL_law_325 : decode cL_law 325 = .ok (.iadd, 1) := by decide +kernel
theorem dL_law_326 : decode cL_law 326 = .ok (.iaload, 1) := by decide +kernel
theorem dL_law_327 : decode cL_law 327 = .ok (.aload_n 0, 1) := by decide +kernel
theorem dL_law_328 : decode cL_law 328 = .ok (.iload_n 3, 1) := by decide +kernel
theorem dL_law_329 : decode cL_law 329 = .ok (.iconst 3, 1) := by decide +kernel
theorem dL_law_330 : decode cL_law 330 = .ok (.iadd, 1) := by decide +kernel
theorem dL_law_331 : decode cL_law 331 = .ok (.iaload, 1) := by decide +kernel
theorem dL_law_332 : decode cL_law 332 = .ok (.aload_n 0, 1) := by decide +kernel
theorem dL_law_333 : decode cL_law 333 = .ok (.iload_n 3, 1) := by decide +kernel
theorem dL_law_334 : decode cL_law 334 = .ok (.iconst 4, 1) := by decide +kernel
theorem dL_law_335 : decode cL_law 335 = .ok (.iadd, 1) := by decide +kernel
theorem dL_law_336 : decode cL_law 336 = .ok (.iaload, 1) := by decide +kernel
theorem dL_law_337 : decode cL_law 337 = .ok (.invokevirtual 35, 3) := by decide +kernel
theorem dL_law_340 : decode cL_law 340 = .ok (.aload_n 2, 1) := by decide +kernel
theorem dL_law_341 : decode cL_law 341 = .ok (.aload_n 0, 1) := by decide +kernel
theorem dL_law_342 : decode cL_law 342 = .ok (.iload_n 3, 1) := by decide +kernel
theorem dL_law_343 : decode cL_law 343 = .ok (.iconst 1, 1) := by decide +kernel
theorem dL_law_344 : decode cL_law 344 = .ok (.iadd, 1) := by decide +kernel
theorem dL_law_345 : decode cL_law 345 = .ok (.iaload, 1) := by decide +kernel
theorem dL_law_346 : decode cL_law 346 = .ok (.aload_n 0, 1) := by decide +kernel
theorem dL_law_347 : decode cL_law 347 = .ok (.iload_n 3, 1) := by decide +kernel
theorem dL_law_348 : decode cL_law 348 = .ok (.iconst 2, 1) := by decide +kernel
theorem dL_law_349 : decode cL_law 349 = .ok (.iadd, 1) := by decide +kernel
theorem dL_law_350 : decode cL_law 350 = .ok (.iaload, 1) := by decide +kernel
theorem dL_law_351 : decode cL_law 351 = .ok (.aload_n 0, 1) := by decide +kernel
theorem dL_law_352 : decode cL_law 352 = .ok (.iload_n 3, 1) := by decide +kernel
theorem dL_law_353 : decode cL_law 353 = .ok (.iconst 3, 1) := by decide +kernel
theorem dL_law_354 : decode cL_law 354 = .ok (.iadd, 1) := by decide +kernel
theorem dL_law_355 : decode cL_law 355 = .ok (.iaload, 1) := by decide +kernel
theorem dL_law_356 : decode cL_law 356 = .ok (.aload_n 0, 1) := by decide +kernel
theorem dL_law_357 : decode cL_law 357 = .ok (.iload_n 3, 1) := by decide +kernel
theorem dL_law_358 : decode cL_law 358 = .ok (.iconst 4, 1) := by decide +kernel
theorem dL_law_359 : decode cL_law 359 = .ok (.iadd, 1) := by decide +kernel
theorem dL_law_360 : decode cL_law 360 = .ok (.iaload, 1) := by decide +kernel
theorem dL_law_361 : decode cL_law 361 = .ok (.invokevirtual 39, 3) := by decide +kernel
theorem dL_law_364 : decode cL_law 364 = .ok (.if_icmp .eq 726, 3) := by decide +kernel
theorem dL_law_367 : decode cL_law 367 = .ok (.iconst 0, 1) := by decide +kernel
theorem dL_law_368 : decode cL_law 368 = .ok (.ireturn, 1) := by decide +kernel
theorem dL_law_369 : decode cL_law 369 = .ok (.aload_n 1, 1) := by decide +kernel
theorem dL_law_370 : decode cL_law 370 = .ok (.aload_n 0, 1) := by decide +kernel
theorem dL_law_371 : decode cL_law 371 = .ok (.iload_n 3, 1) := by decide +kernel
theorem dL_law_372 : decode cL_law 372 = .ok (.iconst 1, 1) := by decide +kernel
theorem dL_law_373 : decode cL_law 373 = .ok (.iadd, 1) := by decide +kernel
theorem dL_law_374 : decode cL_law 374 = .ok (.iaload, 1) := by decide +kernel
theorem dL_law_375 : decode cL_law 375 = .ok (.aload_n 0, 1) := by decide +kernel
theorem dL_law_376 : decode cL_law 376 = .ok (.iload_n 3, 1) := by decide +kernel
theorem dL_law_377 : decode cL_law 377 = .ok (.iconst 2, 1) := by decide +kernel
theorem dL_law_378 : decode cL_law 378 = .ok (.iadd, 1) := by decide +kernel
theorem dL_law_379 : decode cL_law 379 = .ok (.iaload, 1) := by decide +kernel
theorem dL_law_380 : decode cL_law 380 = .ok (.ifCond .eq 7, 3) := by decide +kernel
theorem dL_law_383 : decode cL_law 383 = .ok (.iconst 1, 1) := by decide +kernel
theorem dL_law_384 : decode cL_law 384 = .ok (.goto 4, 3) := by decide +kernel
theorem dL_law_387 : decode cL_law 387 = .ok (.iconst 0, 1) := by decide +kernel
theorem dL_law_388 : decode cL_law 388 = .ok (.invokevirtual 40, 3) := by decide +kernel
theorem dL_law_391 : decode cL_law 391 = .ok (.aload_n 2, 1) := by decide +kernel
theorem dL_law_392 : decode cL_law 392 = .ok (.aload_n 0, 1) := by decide +kernel
theorem dL_law_393 : decode cL_law 393 = .ok (.iload_n 3, 1) := by decide +kernel
theorem dL_law_394 : decode cL_law 394 = .ok (.iconst 1, 1) := by decide +kernel
theorem dL_law_395 : decode cL_law 395 = .ok (.iadd, 1) := by decide +kernel
theorem dL_law_396 : decode cL_law 396 = .ok (.iaload, 1) := by decide +kernel
theorem dL_law_397 : decode cL_law 397 = .ok (.aload_n 0, 1) := by decide +kernel
theorem dL_law_398 : decode cL_law 398 = .ok (.iload_n 3, 1) := by decide +kernel
theorem dL_law_399 : decode cL_law 399 = .ok (.iconst 2, 1) := by decide +kernel
theorem dL_law_400 : decode cL_law 400 = .ok (.iadd, 1) := by decide +kernel
theorem dL_law_401 : decode cL_law 401 = .ok (.iaload, 1) := by decide +kernel
theorem dL_law_402 : decode cL_law 402 = .ok (.ifCond .eq 7, 3) := by decide +kernel
theorem dL_law_405 : decode cL_law 405 = .ok (.iconst 1, 1) := by decide +kernel
theorem dL_law_406 : decode cL_law 406 = .ok (.goto 4, 3) := by decide +kernel
theorem dL_law_409 : decode cL_law 409 = .ok (.iconst 0, 1) := by decide +kernel
theorem dL_law_410 : decode cL_law 410 = .ok (.invokevirtual 44, 3) := by decide +kernel
theorem dL_law_413 : decode cL_law 413 = .ok (.if_icmp .eq 677, 3) := by decide +kernel
theorem dL_law_416 : decode cL_law 416 = .ok (.iconst 0, 1) := by decide +kernel
theorem dL_law_417 : decode cL_law 417 = .ok (.ireturn, 1) := by decide +kernel
theorem dL_law_418 : decode cL_law 418 = .ok (.aload_n 1, 1) := by decide +kernel
theorem dL_law_419 : decode cL_law 419 = .ok (.aload_n 0, 1) := by decide +kernel
theorem dL_law_420 : decode cL_law 420 = .ok (.iload_n 3, 1) := by decide +kernel
theorem dL_law_421 : decode cL_law 421 = .ok (.iconst 1, 1) := by decide +kernel
theorem dL_law_422 : decode cL_law 422 = .ok (.iadd, 1) := by decide +kernel
theorem dL_law_423 : decode cL_law 423 = .ok (.iaload, 1) := by decide +kernel
theorem dL_law_424 : decode cL_law 424 = .ok (.aload_n 0, 1) := by decide +kernel
theorem dL_law_425 : decode cL_law 425 = .ok (.iload_n 3, 1) := by decide +kernel
theorem dL_law_426 : decode cL_law 426 = .ok (.iconst 2, 1) := by decide +kernel
theorem dL_law_427 : decode cL_law 427 = .ok (.iadd, 1) := by decide +kernel
theorem dL_law_428 : decode cL_law 428 = .ok (.iaload, 1) := by decide +kernel
theorem dL_law_429 : decode cL_law 429 = .ok (.aload_n 0, 1) := by decide +kernel
theorem dL_law_430 : decode cL_law 430 = .ok (.iload_n 3, 1) := by decide +kernel
theorem dL_law_431 : decode cL_law 431 = .ok (.iconst 3, 1) := by decide +kernel
theorem dL_law_432 : decode cL_law 432 = .ok (.iadd, 1) := by decide +kernel
theorem dL_law_433 : decode cL_law 433 = .ok (.iaload, 1) := by decide +kernel
theorem dL_law_434 : decode cL_law 434 = .ok (.invokevirtual 45, 3) := by decide +kernel
theorem dL_law_437 : decode cL_law 437 = .ok (.aload_n 2, 1) := by decide +kernel
theorem dL_law_438 : decode cL_law 438 = .ok (.aload_n 0, 1) := by decide +kernel
theorem dL_law_439 : decode cL_law 439 = .ok (.iload_n 3, 1) := by decide +kernel
theorem dL_law_440 : decode cL_law 440 = .ok (.iconst 1, 1) := by decide +kernel
theorem dL_law_441 : decode cL_law 441 = .ok (.iadd, 1) := by decide +kernel
theorem dL_law_442 : decode cL_law 442 = .ok (.iaload, 1) := by decide +kernel
theorem dL_law_443 : decode cL_law 443 = .ok (.aload_n 0, 1) := by decide +kernel
theorem dL_law_444 : decode cL_law 444 = .ok (.iload_n 3, 1) := by decide +kernel
theorem dL_law_445 : decode cL_law 445 = .ok (.iconst 2, 1) := by decide +kernel
theorem dL_law_446 : decode cL_law 446 = .ok (.iadd, 1) := by decide +kernel
theorem dL_law_447 : decode cL_law 447 = .ok (.iaload, 1) := by decide +kernel
theorem dL_law_448 : decode cL_law 448 = .ok (.aload_n 0, 1) := by decide +kernel
theorem dL_law_449 : decode cL_law 449 = .ok (.iload_n 3, 1) := by decide +kernel
theorem dL_law_450 : decode cL_law 450 = .ok (.iconst 3, 1) := by decide +kernel
theorem dL_law_451 : decode cL_law 451 = .ok (.iadd, 1) := by decide +kernel
theorem dL_law_452 : decode cL_law 452 = .ok (.iaload, 1) := by decide +kernel
theorem dL_law_453 : decode cL_law 453 = .ok (.invokevirtual 48, 3) := by decide +kernel
theorem dL_law_456 : decode cL_law 456 = .ok (.if_icmp .eq 634, 3) := by decide +kernel
theorem dL_law_459 : decode cL_law 459 = .ok (.iconst 0, 1) := by decide +kernel
theorem dL_law_460 : decode cL_law 460 = .ok (.ireturn, 1) := by decide +kernel
theorem dL_law_461 : decode cL_law 461 = .ok (.aload_n 1, 1) := by decide +kernel
theorem dL_law_462 : decode cL_law 462 = .ok (.aload_n 0, 1) := by decide +kernel
theorem dL_law_463 : decode cL_law 463 = .ok (.iload_n 3, 1) := by decide +kernel
theorem dL_law_464 : decode cL_law 464 = .ok (.iconst 1, 1) := by decide +kernel
theorem dL_law_465 : decode cL_law 465 = .ok (.iadd, 1) := by decide +kernel
theorem dL_law_466 : decode cL_law 466 = .ok (.iaload, 1) := by decide +kernel
theorem dL_law_467 : decode cL_law 467 = .ok (.aload_n 0, 1) := by decide +kernel
theorem dL_law_468 : decode cL_law 468 = .ok (.iload_n 3, 1) := by decide +kernel
theorem dL_law_469 : decode cL_law 469 = .ok (.iconst 2, 1) := by decide +kernel
theorem dL_law_470 : decode cL_law 470 = .ok (.iadd, 1) := by decide +kernel
theorem dL_law_471 : decode cL_law 471 = .ok (.iaload, 1) := by decide +kernel
theorem dL_law_472 : decode cL_law 472 = .ok (.invokevirtual 49, 3) := by decide +kernel
theorem dL_law_475 : decode cL_law 475 = .ok (.aload_n 2, 1) := by decide +kernel
theorem dL_law_476 : decode cL_law 476 = .ok (.aload_n 0, 1) := by decide +kernel
theorem dL_law_477 : decode cL_law 477 = .ok (.iload_n 3, 1) := by decide +kernel
theorem dL_law_478 : decode cL_law 478 = .ok (.iconst 1, 1) := by decide +kernel
theorem dL_law_479 : decode cL_law 479 = .ok (.iadd, 1) := by decide +kernel
theorem dL_law_480 : decode cL_law 480 = .ok (.iaload, 1) := by decide +kernel
theorem dL_law_481 : decode cL_law 481 = .ok (.aload_n 0, 1) := by decide +kernel
theorem dL_law_482 : decode cL_law 482 = .ok (.iload_n 3, 1) := by decide +kernel
theorem dL_law_483 : decode cL_law 483 = .ok (.iconst 2, 1) := by decide +kernel
theorem dL_law_484 : decode cL_law 484 = .ok (.iadd, 1) := by decide +kernel
theorem dL_law_485 : decode cL_law 485 = .ok (.iaload, 1) := by decide +kernel
theorem dL_law_486 : decode cL_law 486 = .ok (.invokevirtual 52, 3) := by decide +kernel
theorem dL_law_489 : decode cL_law 489 = .ok (.if_icmp .eq 601, 3) := by decide +kernel
theorem dL_law_492 : decode cL_law 492 = .ok (.iconst 0, 1) := by decide +kernel
theorem dL_law_493 : decode cL_law 493 = .ok (.ireturn, 1) := by decide +kernel
theorem dL_law_494 : decode cL_law 494 = .ok (.aload_n 1, 1) := by decide +kernel
theorem dL_law_495 : decode cL_law 495 = .ok (.aload_n 0, 1) := by decide +kernel
theorem dL_law_496 : decode cL_law 496 = .ok (.iload_n 3, 1) := by decide +kernel
theorem dL_law_497 : decode cL_law 497 = .ok (.iconst 1, 1) := by decide +kernel
theorem dL_law_498 : decode cL_law 498 = .ok (.iadd, 1) := by decide +kernel
theorem dL_law_499 : decode cL_law 499 = .ok (.iaload, 1) := by decide +kernel
theorem dL_law_500 : decode cL_law 500 = .ok (.aload_n 0, 1) := by decide +kernel
theorem dL_law_501 : decode cL_law 501 = .ok (.iload_n 3, 1) := by decide +kernel
theorem dL_law_502 : decode cL_law 502 = .ok (.iconst 2, 1) := by decide +kernel
theorem dL_law_503 : decode cL_law 503 = .ok (.iadd, 1) := by decide +kernel
theorem dL_law_504 : decode cL_law 504 = .ok (.iaload, 1) := by decide +kernel
theorem dL_law_505 : decode cL_law 505 = .ok (.aload_n 0, 1) := by decide +kernel
theorem dL_law_506 : decode cL_law 506 = .ok (.iload_n 3, 1) := by decide +kernel
theorem dL_law_507 : decode cL_law 507 = .ok (.iconst 3, 1) := by decide +kernel
theorem dL_law_508 : decode cL_law 508 = .ok (.iadd, 1) := by decide +kernel
theorem dL_law_509 : decode cL_law 509 = .ok (.iaload, 1) := by decide +kernel
theorem dL_law_510 : decode cL_law 510 = .ok (.ifCond .eq 7, 3) := by decide +kernel
theorem dL_law_513 : decode cL_law 513 = .ok (.iconst 1, 1) := by decide +kernel
theorem dL_law_514 : decode cL_law 514 = .ok (.goto 4, 3) := by decide +kernel
theorem dL_law_517 : decode cL_law 517 = .ok (.iconst 0, 1) := by decide +kernel
theorem dL_law_518 : decode cL_law 518 = .ok (.aload_n 0, 1) := by decide +kernel
theorem dL_law_519 : decode cL_law 519 = .ok (.iload_n 3, 1) := by decide +kernel
theorem dL_law_520 : decode cL_law 520 = .ok (.iconst 4, 1) := by decide +kernel
theorem dL_law_521 : decode cL_law 521 = .ok (.iadd, 1) := by decide +kernel
theorem dL_law_522 : decode cL_law 522 = .ok (.iaload, 1) := by decide +kernel
theorem dL_law_523 : decode cL_law 523 = .ok (.invokevirtual 53, 3) := by decide +kernel
theorem dL_law_526 : decode cL_law 526 = .ok (.aload_n 2, 1) := by decide +kernel
theorem dL_law_527 : decode cL_law 527 = .ok (.aload_n 0, 1) := by decide +kernel
theorem dL_law_528 : decode cL_law 528 = .ok (.iload_n 3, 1) := by decide +kernel
theorem dL_law_529 : decode cL_law 529 = .ok (.iconst 1, 1) := by decide +kernel
theorem dL_law_530 : decode cL_law 530 = .ok (.iadd, 1) := by decide +kernel
theorem dL_law_531 : decode cL_law 531 = .ok (.iaload, 1) := by decide +kernel
theorem dL_law_532 : decode cL_law 532 = .ok (.aload_n 0, 1) := by decide +kernel
theorem dL_law_533 : decode cL_law 533 = .ok (.iload_n 3, 1) := by decide +kernel
theorem dL_law_534 : decode cL_law 534 = .ok (.iconst 2, 1) := by decide +kernel
theorem dL_law_535 : decode cL_law 535 = .ok (.iadd, 1) := by decide +kernel
theorem dL_law_536 : decode cL_law 536 = .ok (.iaload, 1) := by decide +kernel
theorem dL_law_537 : decode cL_law 537 = .ok (.aload_n 0, 1) := by decide +kernel
theorem dL_law_538 : decode cL_law 538 = .ok (.iload_n 3, 1) := by decide +kernel
theorem dL_law_539 : decode cL_law 539 = .ok (.iconst 3, 1) := by decide +kernel
theorem dL_law_540 : decode cL_law 540 = .ok (.iadd, 1) := by decide +kernel
theorem dL_law_541 : decode cL_law 541 = .ok (.iaload, 1) := by decide +kernel
theorem dL_law_542 : decode cL_law 542 = .ok (.ifCond .eq 7, 3) := by decide +kernel
theorem dL_law_545 : decode cL_law 545 = .ok (.iconst 1, 1) := by decide +kernel
theorem dL_law_546 : decode cL_law 546 = .ok (.goto 4, 3) := by decide +kernel
theorem dL_law_549 : decode cL_law 549 = .ok (.iconst 0, 1) := by decide +kernel
theorem dL_law_550 : decode cL_law 550 = .ok (.aload_n 0, 1) := by decide +kernel
theorem dL_law_551 : decode cL_law 551 = .ok (.iload_n 3, 1) := by decide +kernel
theorem dL_law_552 : decode cL_law 552 = .ok (.iconst 4, 1) := by decide +kernel
theorem dL_law_553 : decode cL_law 553 = .ok (.iadd, 1) := by decide +kernel
theorem dL_law_554 : decode cL_law 554 = .ok (.iaload, 1) := by decide +kernel
theorem dL_law_555 : decode cL_law 555 = .ok (.invokevirtual 57, 3) := by decide +kernel
theorem dL_law_558 : decode cL_law 558 = .ok (.if_icmp .eq 532, 3) := by decide +kernel
theorem dL_law_561 : decode cL_law 561 = .ok (.iconst 0, 1) := by decide +kernel
theorem dL_law_562 : decode cL_law 562 = .ok (.ireturn, 1) := by decide +kernel
theorem dL_law_563 : decode cL_law 563 = .ok (.aload_n 1, 1) := by decide +kernel
theorem dL_law_564 : decode cL_law 564 = .ok (.aload_n 0, 1) := by decide +kernel
theorem dL_law_565 : decode cL_law 565 = .ok (.iload_n 3, 1) := by decide +kernel
theorem dL_law_566 : decode cL_law 566 = .ok (.iconst 1, 1) := by decide +kernel
theorem dL_law_567 : decode cL_law 567 = .ok (.iadd, 1) := by decide +kernel
theorem dL_law_568 : decode cL_law 568 = .ok (.iaload, 1) := by decide +kernel
theorem dL_law_569 : decode cL_law 569 = .ok (.aload_n 0, 1) := by decide +kernel
theorem dL_law_570 : decode cL_law 570 = .ok (.iload_n 3, 1) := by decide +kernel
theorem dL_law_571 : decode cL_law 571 = .ok (.iconst 2, 1) := by decide +kernel
theorem dL_law_572 : decode cL_law 572 = .ok (.iadd, 1) := by decide +kernel
theorem dL_law_573 : decode cL_law 573 = .ok (.iaload, 1) := by decide +kernel
theorem dL_law_574 : decode cL_law 574 = .ok (.aload_n 0, 1) := by decide +kernel
theorem dL_law_575 : decode cL_law 575 = .ok (.iload_n 3, 1) := by decide +kernel
theorem dL_law_576 : decode cL_law 576 = .ok (.iconst 3, 1) := by decide +kernel
theorem dL_law_577 : decode cL_law 577 = .ok (.iadd, 1) := by decide +kernel
theorem dL_law_578 : decode cL_law 578 = .ok (.iaload, 1) := by decide +kernel
theorem dL_law_579 : decode cL_law 579 = .ok (.ifCond .eq 7, 3) := by decide +kernel
theorem dL_law_582 : decode cL_law 582 = .ok (.iconst 1, 1) := by decide +kernel
theorem dL_law_583 : decode cL_law 583 = .ok (.goto 4, 3) := by decide +kernel
theorem dL_law_586 : decode cL_law 586 = .ok (.iconst 0, 1) := by decide +kernel
theorem dL_law_587 : decode cL_law 587 = .ok (.invokevirtual 58, 3) := by decide +kernel
theorem dL_law_590 : decode cL_law 590 = .ok (.aload_n 2, 1) := by decide +kernel
theorem dL_law_591 : decode cL_law 591 = .ok (.aload_n 0, 1) := by decide +kernel
theorem dL_law_592 : decode cL_law 592 = .ok (.iload_n 3, 1) := by decide +kernel
theorem dL_law_593 : decode cL_law 593 = .ok (.iconst 1, 1) := by decide +kernel
theorem dL_law_594 : decode cL_law 594 = .ok (.iadd, 1) := by decide +kernel
theorem dL_law_595 : decode cL_law 595 = .ok (.iaload, 1) := by decide +kernel
theorem dL_law_596 : decode cL_law 596 = .ok (.aload_n 0, 1) := by decide +kernel
theorem dL_law_597 : decode cL_law 597 = .ok (.iload_n 3, 1) := by decide +kernel
theorem dL_law_598 : decode cL_law 598 = .ok (.iconst 2, 1) := by decide +kernel
theorem dL_law_599 : decode cL_law 599 = .ok (.iadd, 1) := by decide +kernel
theorem dL_law_600 : decode cL_law 600 = .ok (.iaload, 1) := by decide +kernel
theorem dL_law_601 : decode cL_law 601 = .ok (.aload_n 0, 1) := by decide +kernel
theorem dL_law_602 : decode cL_law 602 = .ok (.iload_n 3, 1) := by decide +kernel
theorem dL_law_603 : decode cL_law 603 = .ok (.iconst 3, 1) := by decide +kernel
theorem dL_law_604 : decode cL_law 604 = .ok (.iadd, 1) := by decide +kernel
theorem dL_law_605 : decode cL_law 605 = .ok (.iaload, 1) := by decide +kernel
theorem dL_law_606 : decode cL_law 606 = .ok (.ifCond .eq 7, 3) := by decide +kernel
theorem dL_law_609 : decode cL_law 609 = .ok (.iconst 1, 1) := by decide +kernel
theorem dL_law_610 : decode cL_law 610 = .ok (.goto 4, 3) := by decide +kernel
theorem dL_law_613 : decode cL_law 613 = .ok (.iconst 0, 1) := by decide +kernel
theorem dL_law_614 : decode cL_law 614 = .ok (.invokevirtual 62, 3) := by decide +kernel
theorem dL_law_617 : decode cL_law 617 = .ok (.if_icmp .eq 473, 3) := by decide +kernel
theorem dL_law_620 : decode cL_law 620 = .ok (.iconst 0, 1) := by decide +kernel
theorem dL_law_621 : decode cL_law 621 = .ok (.ireturn, 1) := by decide +kernel
theorem dL_law_622 : decode cL_law 622 = .ok (.aload_n 1, 1) := by decide +kernel
theorem dL_law_623 : decode cL_law 623 = .ok (.aload_n 0, 1) := by decide +kernel
theorem dL_law_624 : decode cL_law 624 = .ok (.iload_n 3, 1) := by decide +kernel
theorem dL_law_625 : decode cL_law 625 = .ok (.iconst 1, 1) := by decide +kernel
theorem dL_law_626 : decode cL_law 626 = .ok (.iadd, 1) := by decide +kernel
theorem dL_law_627 : decode cL_law 627 = .ok (.iaload, 1) := by decide +kernel
theorem dL_law_628 : decode cL_law 628 = .ok (.invokevirtual 63, 3) := by decide +kernel
theorem dL_law_631 : decode cL_law 631 = .ok (.aload_n 2, 1) := by decide +kernel
theorem dL_law_632 : decode cL_law 632 = .ok (.aload_n 0, 1) := by decide +kernel
theorem dL_law_633 : decode cL_law 633 = .ok (.iload_n 3, 1) := by decide +kernel
theorem dL_law_634 : decode cL_law 634 = .ok (.iconst 1, 1) := by decide +kernel
theorem dL_law_635 : decode cL_law 635 = .ok (.iadd, 1) := by decide +kernel
theorem dL_law_636 : decode cL_law 636 = .ok (.iaload, 1) := by decide +kernel
theorem dL_law_637 : decode cL_law 637 = .ok (.invokevirtual 67, 3) := by decide +kernel
theorem dL_law_640 : decode cL_law 640 = .ok (.if_icmp .eq 450, 3) := by decide +kernel
theorem dL_law_643 : decode cL_law 643 = .ok (.iconst 0, 1) := by decide +kernel
theorem dL_law_644 : decode cL_law 644 = .ok (.ireturn, 1) := by decide +kernel
theorem dL_law_645 : decode cL_law 645 = .ok (.aload_n 1, 1) := by decide +kernel
theorem dL_law_646 : decode cL_law 646 = .ok (.aload_n 0, 1) := by decide +kernel
theorem dL_law_647 : decode cL_law 647 = .ok (.iload_n 3, 1) := by decide +kernel
theorem dL_law_648 : decode cL_law 648 = .ok (.iconst 1, 1) := by decide +kernel
theorem dL_law_649 : decode cL_law 649 = .ok (.iadd, 1) := by decide +kernel
theorem dL_law_650 : decode cL_law 650 = .ok (.iaload, 1) := by decide +kernel
theorem dL_law_651 : decode cL_law 651 = .ok (.invokevirtual 68, 3) := by decide +kernel
theorem dL_law_654 : decode cL_law 654 = .ok (.aload_n 2, 1) := by decide +kernel
theorem dL_law_655 : decode cL_law 655 = .ok (.aload_n 0, 1) := by decide +kernel
theorem dL_law_656 : decode cL_law 656 = .ok (.iload_n 3, 1) := by decide +kernel
theorem dL_law_657 : decode cL_law 657 = .ok (.iconst 1, 1) := by decide +kernel
theorem dL_law_658 : decode cL_law 658 = .ok (.iadd, 1) := by decide +kernel
theorem dL_law_659 : decode cL_law 659 = .ok (.iaload, 1) := by decide +kernel
theorem dL_law_660 : decode cL_law 660 = .ok (.invokevirtual 71, 3) := by decide +kernel
theorem dL_law_663 : decode cL_law 663 = .ok (.if_icmp .eq 427, 3) := by decide +kernel
theorem dL_law_666 : decode cL_law 666 = .ok (.iconst 0, 1) := by decide +kernel
theorem dL_law_667 : decode cL_law 667 = .ok (.ireturn, 1) := by decide +kernel
theorem dL_law_668 : decode cL_law 668 = .ok (.aload_n 1, 1) := by decide +kernel
theorem dL_law_669 : decode cL_law 669 = .ok (.aload_n 0, 1) := by decide +kernel
theorem dL_law_670 : decode cL_law 670 = .ok (.iload_n 3, 1) := by decide +kernel
theorem dL_law_671 : decode cL_law 671 = .ok (.iconst 1, 1) := by decide +kernel
theorem dL_law_672 : decode cL_law 672 = .ok (.iadd, 1) := by decide +kernel
theorem dL_law_673 : decode cL_law 673 = .ok (.iaload, 1) := by decide +kernel
theorem dL_law_674 : decode cL_law 674 = .ok (.aload_n 0, 1) := by decide +kernel
theorem dL_law_675 : decode cL_law 675 = .ok (.iload_n 3, 1) := by decide +kernel
theorem dL_law_676 : decode cL_law 676 = .ok (.iconst 2, 1) := by decide +kernel
theorem dL_law_677 : decode cL_law 677 = .ok (.iadd, 1) := by decide +kernel
theorem dL_law_678 : decode cL_law 678 = .ok (.iaload, 1) := by decide +kernel
theorem dL_law_679 : decode cL_law 679 = .ok (.invokevirtual 72, 3) := by decide +kernel
theorem dL_law_682 : decode cL_law 682 = .ok (.aload_n 2, 1) := by decide +kernel
theorem dL_law_683 : decode cL_law 683 = .ok (.aload_n 0, 1) := by decide +kernel
theorem dL_law_684 : decode cL_law 684 = .ok (.iload_n 3, 1) := by decide +kernel
theorem dL_law_685 : decode cL_law 685 = .ok (.iconst 1, 1) := by decide +kernel
theorem dL_law_686 : decode cL_law 686 = .ok (.iadd, 1) := by decide +kernel
theorem dL_law_687 : decode cL_law 687 = .ok (.iaload, 1) := by decide +kernel
theorem dL_law_688 : decode cL_law 688 = .ok (.aload_n 0, 1) := by decide +kernel
theorem dL_law_689 : decode cL_law 689 = .ok (.iload_n 3, 1) := by decide +kernel
theorem dL_law_690 : decode cL_law 690 = .ok (.iconst 2, 1) := by decide +kernel
theorem dL_law_691 : decode cL_law 691 = .ok (.iadd, 1) := by decide +kernel
theorem dL_law_692 : decode cL_law 692 = .ok (.iaload, 1) := by decide +kernel
theorem dL_law_693 : decode cL_law 693 = .ok (.invokevirtual 75, 3) := by decide +kernel
theorem dL_law_696 : decode cL_law 696 = .ok (.if_icmp .eq 394, 3) := by decide +kernel
theorem dL_law_699 : decode cL_law 699 = .ok (.iconst 0, 1) := by decide +kernel
theorem dL_law_700 : decode cL_law 700 = .ok (.ireturn, 1) := by decide +kernel
theorem dL_law_701 : decode cL_law 701 = .ok (.aload_n 1, 1) := by decide +kernel
theorem dL_law_702 : decode cL_law 702 = .ok (.invokevirtual 76, 3) := by decide +kernel
theorem dL_law_705 : decode cL_law 705 = .ok (.aload_n 2, 1) := by decide +kernel
theorem dL_law_706 : decode cL_law 706 = .ok (.invokevirtual 79, 3) := by decide +kernel
theorem dL_law_709 : decode cL_law 709 = .ok (.if_icmp .eq 381, 3) := by decide +kernel
theorem dL_law_712 : decode cL_law 712 = .ok (.iconst 0, 1) := by decide +kernel
theorem dL_law_713 : decode cL_law 713 = .ok (.ireturn, 1) := by decide +kernel
theorem dL_law_714 : decode cL_law 714 = .ok (.aload_n 1, 1) := by decide +kernel
theorem dL_law_715 : decode cL_law 715 = .ok (.aload_n 0, 1) := by decide +kernel
theorem dL_law_716 : decode cL_law 716 = .ok (.iload_n 3, 1) := by decide +kernel
theorem dL_law_717 : decode cL_law 717 = .ok (.iconst 1, 1) := by decide +kernel
theorem dL_law_718 : decode cL_law 718 = .ok (.iadd, 1) := by decide +kernel
theorem dL_law_719 : decode cL_law 719 = .ok (.iaload, 1) := by decide +kernel
theorem dL_law_720 : decode cL_law 720 = .ok (.invokevirtual 80, 3) := by decide +kernel
theorem dL_law_723 : decode cL_law 723 = .ok (.aload_n 2, 1) := by decide +kernel
theorem dL_law_724 : decode cL_law 724 = .ok (.aload_n 0, 1) := by decide +kernel
theorem dL_law_725 : decode cL_law 725 = .ok (.iload_n 3, 1) := by decide +kernel
theorem dL_law_726 : decode cL_law 726 = .ok (.iconst 1, 1) := by decide +kernel
theorem dL_law_727 : decode cL_law 727 = .ok (.iadd, 1) := by decide +kernel
theorem dL_law_728 : decode cL_law 728 = .ok (.iaload, 1) := by decide +kernel
theorem dL_law_729 : decode cL_law 729 = .ok (.invokevirtual 83, 3) := by decide +kernel
theorem dL_law_732 : decode cL_law 732 = .ok (.if_icmp .eq 358, 3) := by decide +kernel
theorem dL_law_735 : decode cL_law 735 = .ok (.iconst 0, 1) := by decide +kernel
theorem dL_law_736 : decode cL_law 736 = .ok (.ireturn, 1) := by decide +kernel
theorem dL_law_737 : decode cL_law 737 = .ok (.aload_n 1, 1) := by decide +kernel
theorem dL_law_738 : decode cL_law 738 = .ok (.aload_n 0, 1) := by decide +kernel
theorem dL_law_739 : decode cL_law 739 = .ok (.iload_n 3, 1) := by decide +kernel
theorem dL_law_740 : decode cL_law 740 = .ok (.iconst 1, 1) := by decide +kernel
theorem dL_law_741 : decode cL_law 741 = .ok (.iadd, 1) := by decide +kernel
theorem dL_law_742 : decode cL_law 742 = .ok (.iaload, 1) := by decide +kernel
theorem dL_law_743 : decode cL_law 743 = .ok (.invokevirtual 84, 3) := by decide +kernel
theorem dL_law_746 : decode cL_law 746 = .ok (.aload_n 2, 1) := by decide +kernel
theorem dL_law_747 : decode cL_law 747 = .ok (.aload_n 0, 1) := by decide +kernel
theorem dL_law_748 : decode cL_law 748 = .ok (.iload_n 3, 1) := by decide +kernel
theorem dL_law_749 : decode cL_law 749 = .ok (.iconst 1, 1) := by decide +kernel
theorem dL_law_750 : decode cL_law 750 = .ok (.iadd, 1) := by decide +kernel
theorem dL_law_751 : decode cL_law 751 = .ok (.iaload, 1) := by decide +kernel
theorem dL_law_752 : decode cL_law 752 = .ok (.invokevirtual 88, 3) := by decide +kernel
theorem dL_law_755 : decode cL_law 755 = .ok (.lcmp, 1) := by decide +kernel
theorem dL_law_756 : decode cL_law 756 = .ok (.ifCond .eq 334, 3) := by decide +kernel
theorem dL_law_759 : decode cL_law 759 = .ok (.iconst 0, 1) := by decide +kernel
theorem dL_law_760 : decode cL_law 760 = .ok (.ireturn, 1) := by decide +kernel
theorem dL_law_761 : decode cL_law 761 = .ok (.aload_n 1, 1) := by decide +kernel
theorem dL_law_762 : decode cL_law 762 = .ok (.aload_n 0, 1) := by decide +kernel
theorem dL_law_763 : decode cL_law 763 = .ok (.iload_n 3, 1) := by decide +kernel
theorem dL_law_764 : decode cL_law 764 = .ok (.iconst 1, 1) := by decide +kernel
theorem dL_law_765 : decode cL_law 765 = .ok (.iadd, 1) := by decide +kernel
theorem dL_law_766 : decode cL_law 766 = .ok (.iaload, 1) := by decide +kernel
theorem dL_law_767 : decode cL_law 767 = .ok (.invokevirtual 89, 3) := by decide +kernel
theorem dL_law_770 : decode cL_law 770 = .ok (.aload_n 2, 1) := by decide +kernel
theorem dL_law_771 : decode cL_law 771 = .ok (.aload_n 0, 1) := by decide +kernel
theorem dL_law_772 : decode cL_law 772 = .ok (.iload_n 3, 1) := by decide +kernel
theorem dL_law_773 : decode cL_law 773 = .ok (.iconst 1, 1) := by decide +kernel
theorem dL_law_774 : decode cL_law 774 = .ok (.iadd, 1) := by decide +kernel
theorem dL_law_775 : decode cL_law 775 = .ok (.iaload, 1) := by decide +kernel
theorem dL_law_776 : decode cL_law 776 = .ok (.invokevirtual 92, 3) := by decide +kernel
theorem dL_law_779 : decode cL_law 779 = .ok (.if_icmp .eq 311, 3) := by decide +kernel
theorem dL_law_782 : decode cL_law 782 = .ok (.iconst 0, 1) := by decide +kernel
theorem dL_law_783 : decode cL_law 783 = .ok (.ireturn, 1) := by decide +kernel
theorem dL_law_784 : decode cL_law 784 = .ok (.aload_n 1, 1) := by decide +kernel
theorem dL_law_785 : decode cL_law 785 = .ok (.aload_n 0, 1) := by decide +kernel
theorem dL_law_786 : decode cL_law 786 = .ok (.iload_n 3, 1) := by decide +kernel
theorem dL_law_787 : decode cL_law 787 = .ok (.iconst 1, 1) := by decide +kernel
theorem dL_law_788 : decode cL_law 788 = .ok (.iadd, 1) := by decide +kernel
theorem dL_law_789 : decode cL_law 789 = .ok (.iaload, 1) := by decide +kernel
theorem dL_law_790 : decode cL_law 790 = .ok (.invokevirtual 93, 3) := by decide +kernel
theorem dL_law_793 : decode cL_law 793 = .ok (.aload_n 2, 1) := by decide +kernel
theorem dL_law_794 : decode cL_law 794 = .ok (.aload_n 0, 1) := by decide +kernel
theorem dL_law_795 : decode cL_law 795 = .ok (.iload_n 3, 1) := by decide +kernel
theorem dL_law_796 : decode cL_law 796 = .ok (.iconst 1, 1) := by decide +kernel
theorem dL_law_797 : decode cL_law 797 = .ok (.iadd, 1) := by decide +kernel
theorem dL_law_798 : decode cL_law 798 = .ok (.iaload, 1) := by decide +kernel
theorem dL_law_799 : decode cL_law 799 = .ok (.invokevirtual 96, 3) := by decide +kernel
theorem dL_law_802 : decode cL_law 802 = .ok (.if_icmp .eq 288, 3) := by decide +kernel
theorem dL_law_805 : decode cL_law 805 = .ok (.iconst 0, 1) := by decide +kernel
theorem dL_law_806 : decode cL_law 806 = .ok (.ireturn, 1) := by decide +kernel
theorem dL_law_807 : decode cL_law 807 = .ok (.aload_n 1, 1) := by decide +kernel
theorem dL_law_808 : decode cL_law 808 = .ok (.aload_n 0, 1) := by decide +kernel
theorem dL_law_809 : decode cL_law 809 = .ok (.iload_n 3, 1) := by decide +kernel
theorem dL_law_810 : decode cL_law 810 = .ok (.iconst 1, 1) := by decide +kernel
theorem dL_law_811 : decode cL_law 811 = .ok (.iadd, 1) := by decide +kernel
theorem dL_law_812 : decode cL_law 812 = .ok (.iaload, 1) := by decide +kernel
theorem dL_law_813 : decode cL_law 813 = .ok (.aload_n 0, 1) := by decide +kernel
theorem dL_law_814 : decode cL_law 814 = .ok (.iload_n 3, 1) := by decide +kernel
theorem dL_law_815 : decode cL_law 815 = .ok (.iconst 2, 1) := by decide +kernel
theorem dL_law_816 : decode cL_law 816 = .ok (.iadd, 1) := by decide +kernel
theorem dL_law_817 : decode cL_law 817 = .ok (.iaload, 1) := by decide +kernel
theorem dL_law_818 : decode cL_law 818 = .ok (.aload_n 0, 1) := by decide +kernel
theorem dL_law_819 : decode cL_law 819 = .ok (.iload_n 3, 1) := by decide +kernel
theorem dL_law_820 : decode cL_law 820 = .ok (.iconst 3, 1) := by decide +kernel
theorem dL_law_821 : decode cL_law 821 = .ok (.iadd, 1) := by decide +kernel
theorem dL_law_822 : decode cL_law 822 = .ok (.iaload, 1) := by decide +kernel
theorem dL_law_823 : decode cL_law 823 = .ok (.aload_n 0, 1) := by decide +kernel
theorem dL_law_824 : decode cL_law 824 = .ok (.iload_n 3, 1) := by decide +kernel
theorem dL_law_825 : decode cL_law 825 = .ok (.iconst 4, 1) := by decide +kernel
theorem dL_law_826 : decode cL_law 826 = .ok (.iadd, 1) := by decide +kernel
theorem dL_law_827 : decode cL_law 827 = .ok (.iaload, 1) := by decide +kernel
theorem dL_law_828 : decode cL_law 828 = .ok (.aload_n 0, 1) := by decide +kernel
theorem dL_law_829 : decode cL_law 829 = .ok (.iload_n 3, 1) := by decide +kernel
theorem dL_law_830 : decode cL_law 830 = .ok (.iconst 5, 1) := by decide +kernel
theorem dL_law_831 : decode cL_law 831 = .ok (.iadd, 1) := by decide +kernel
theorem dL_law_832 : decode cL_law 832 = .ok (.iaload, 1) := by decide +kernel
theorem dL_law_833 : decode cL_law 833 = .ok (.invokevirtual 97, 3) := by decide +kernel
theorem dL_law_836 : decode cL_law 836 = .ok (.aload_n 2, 1) := by decide +kernel
theorem dL_law_837 : decode cL_law 837 = .ok (.aload_n 0, 1) := by decide +kernel
theorem dL_law_838 : decode cL_law 838 = .ok (.iload_n 3, 1) := by decide +kernel
theorem dL_law_839 : decode cL_law 839 = .ok (.iconst 1, 1) := by decide +kernel
theorem dL_law_840 : decode cL_law 840 = .ok (.iadd, 1) := by decide +kernel
theorem dL_law_841 : decode cL_law 841 = .ok (.iaload, 1) := by decide +kernel
theorem dL_law_842 : decode cL_law 842 = .ok (.aload_n 0, 1) := by decide +kernel
theorem dL_law_843 : decode cL_law 843 = .ok (.iload_n 3, 1) := by decide +kernel
theorem dL_law_844 : decode cL_law 844 = .ok (.iconst 2, 1) := by decide +kernel
theorem dL_law_845 : decode cL_law 845 = .ok (.iadd, 1) := by decide +kernel
theorem dL_law_846 : decode cL_law 846 = .ok (.iaload, 1) := by decide +kernel
theorem dL_law_847 : decode cL_law 847 = .ok (.aload_n 0, 1) := by decide +kernel
theorem dL_law_848 : decode cL_law 848 = .ok (.iload_n 3, 1) := by decide +kernel
theorem dL_law_849 : decode cL_law 849 = .ok (.iconst 3, 1) := by decide +kernel
theorem dL_law_850 : decode cL_law 850 = .ok (.iadd, 1) := by decide +kernel
theorem dL_law_851 : decode cL_law 851 = .ok (.iaload, 1) := by decide +kernel
theorem dL_law_852 : decode cL_law 852 = .ok (.aload_n 0, 1) := by decide +kernel
theorem dL_law_853 : decode cL_law 853 = .ok (.iload_n 3, 1) := by decide +kernel
theorem dL_law_854 : decode cL_law 854 = .ok (.iconst 4, 1) := by decide +kernel
theorem dL_law_855 : decode cL_law 855 = .ok (.iadd, 1) := by decide +kernel
theorem dL_law_856 : decode cL_law 856 = .ok (.iaload, 1) := by decide +kernel
theorem dL_law_857 : decode cL_law 857 = .ok (.aload_n 0, 1) := by decide +kernel
theorem dL_law_858 : decode cL_law 858 = .ok (.iload_n 3, 1) := by decide +kernel
theorem dL_law_859 : decode cL_law 859 = .ok (.iconst 5, 1) := by decide +kernel
theorem dL_law_860 : decode cL_law 860 = .ok (.iadd, 1) := by decide +kernel
theorem dL_law_861 : decode cL_law 861 = .ok (.iaload, 1) := by decide +kernel
theorem dL_law_862 : decode cL_law 862 = .ok (.invokevirtual 101, 3) := by decide +kernel
theorem dL_law_865 : decode cL_law 865 = .ok (.if_icmp .eq 225, 3) := by decide +kernel
theorem dL_law_868 : decode cL_law 868 = .ok (.iconst 0, 1) := by decide +kernel
theorem dL_law_869 : decode cL_law 869 = .ok (.ireturn, 1) := by decide +kernel
theorem dL_law_870 : decode cL_law 870 = .ok (.aload_n 1, 1) := by decide +kernel
theorem dL_law_871 : decode cL_law 871 = .ok (.aload_n 0, 1) := by decide +kernel
theorem dL_law_872 : decode cL_law 872 = .ok (.iload_n 3, 1) := by decide +kernel
theorem dL_law_873 : decode cL_law 873 = .ok (.iconst 1, 1) := by decide +kernel
theorem dL_law_874 : decode cL_law 874 = .ok (.iadd, 1) := by decide +kernel
theorem dL_law_875 : decode cL_law 875 = .ok (.iaload, 1) := by decide +kernel
theorem dL_law_876 : decode cL_law 876 = .ok (.invokevirtual 102, 3) := by decide +kernel
theorem dL_law_879 : decode cL_law 879 = .ok (.aload_n 2, 1) := by decide +kernel
theorem dL_law_880 : decode cL_law 880 = .ok (.aload_n 0, 1) := by decide +kernel
theorem dL_law_881 : decode cL_law 881 = .ok (.iload_n 3, 1) := by decide +kernel
theorem dL_law_882 : decode cL_law 882 = .ok (.iconst 1, 1) := by decide +kernel
theorem dL_law_883 : decode cL_law 883 = .ok (.iadd, 1) := by decide +kernel
theorem dL_law_884 : decode cL_law 884 = .ok (.iaload, 1) := by decide +kernel
theorem dL_law_885 : decode cL_law 885 = .ok (.invokevirtual 105, 3) := by decide +kernel
theorem dL_law_888 : decode cL_law 888 = .ok (.if_icmp .eq 202, 3) := by decide +kernel
theorem dL_law_891 : decode cL_law 891 = .ok (.iconst 0, 1) := by decide +kernel
theorem dL_law_892 : decode cL_law 892 = .ok (.ireturn, 1) := by decide +kernel
theorem dL_law_893 : decode cL_law 893 = .ok (.aload_n 1, 1) := by decide +kernel
theorem dL_law_894 : decode cL_law 894 = .ok (.aload_n 0, 1) := by decide +kernel
theorem dL_law_895 : decode cL_law 895 = .ok (.iload_n 3, 1) := by decide +kernel
theorem dL_law_896 : decode cL_law 896 = .ok (.iconst 1, 1) := by decide +kernel
theorem dL_law_897 : decode cL_law 897 = .ok (.iadd, 1) := by decide +kernel
theorem dL_law_898 : decode cL_law 898 = .ok (.iaload, 1) := by decide +kernel
theorem dL_law_899 : decode cL_law 899 = .ok (.invokevirtual 106, 3) := by decide +kernel
theorem dL_law_902 : decode cL_law 902 = .ok (.aload_n 2, 1) := by decide +kernel
theorem dL_law_903 : decode cL_law 903 = .ok (.aload_n 0, 1) := by decide +kernel
theorem dL_law_904 : decode cL_law 904 = .ok (.iload_n 3, 1) := by decide +kernel
theorem dL_law_905 : decode cL_law 905 = .ok (.iconst 1, 1) := by decide +kernel
theorem dL_law_906 : decode cL_law 906 = .ok (.iadd, 1) := by decide +kernel
theorem dL_law_907 : decode cL_law 907 = .ok (.iaload, 1) := by decide +kernel
theorem dL_law_908 : decode cL_law 908 = .ok (.invokevirtual 109, 3) := by decide +kernel
theorem dL_law_911 : decode cL_law 911 = .ok (.if_icmp .eq 179, 3) := by decide +kernel
theorem dL_law_914 : decode cL_law 914 = .ok (.iconst 0, 1) := by decide +kernel
theorem dL_law_915 : decode cL_law 915 = .ok (.ireturn, 1) := by decide +kernel
theorem dL_law_916 : decode cL_law 916 = .ok (.aload_n 1, 1) := by decide +kernel
theorem dL_law_917 : decode cL_law 917 = .ok (.aload_n 0, 1) := by decide +kernel
theorem dL_law_918 : decode cL_law 918 = .ok (.iload_n 3, 1) := by decide +kernel
theorem dL_law_919 : decode cL_law 919 = .ok (.iconst 1, 1) := by decide +kernel
theorem dL_law_920 : decode cL_law 920 = .ok (.iadd, 1) := by decide +kernel
theorem dL_law_921 : decode cL_law 921 = .ok (.iaload, 1) := by decide +kernel
theorem dL_law_922 : decode cL_law 922 = .ok (.invokevirtual 110, 3) := by decide +kernel
theorem dL_law_925 : decode cL_law 925 = .ok (.aload_n 2, 1) := by decide +kernel
theorem dL_law_926 : decode cL_law 926 = .ok (.aload_n 0, 1) := by decide +kernel
theorem dL_law_927 : decode cL_law 927 = .ok (.iload_n 3, 1) := by decide +kernel
theorem dL_law_928 : decode cL_law 928 = .ok (.iconst 1, 1) := by decide +kernel
theorem dL_law_929 : decode cL_law 929 = .ok (.iadd, 1) := by decide +kernel
theorem dL_law_930 : decode cL_law 930 = .ok (.iaload, 1) := by decide +kernel
theorem dL_law_931 : decode cL_law 931 = .ok (.invokevirtual 113, 3) := by decide +kernel
theorem dL_law_934 : decode cL_law 934 = .ok (.if_icmp .eq 156, 3) := by decide +kernel
theorem dL_law_937 : decode cL_law 937 = .ok (.iconst 0, 1) := by decide +kernel
theorem dL_law_938 : decode cL_law 938 = .ok (.ireturn, 1) := by decide +kernel
theorem dL_law_939 : decode cL_law 939 = .ok (.aload_n 1, 1) := by decide +kernel
theorem dL_law_940 : decode cL_law 940 = .ok (.aload_n 0, 1) := by decide +kernel
theorem dL_law_941 : decode cL_law 941 = .ok (.iload_n 3, 1) := by decide +kernel
theorem dL_law_942 : decode cL_law 942 = .ok (.iconst 1, 1) := by decide +kernel
theorem dL_law_943 : decode cL_law 943 = .ok (.iadd, 1) := by decide +kernel
theorem dL_law_944 : decode cL_law 944 = .ok (.iaload, 1) := by decide +kernel
theorem dL_law_945 : decode cL_law 945 = .ok (.invokevirtual 114, 3) := by decide +kernel
theorem dL_law_948 : decode cL_law 948 = .ok (.aload_n 2, 1) := by decide +kernel
theorem dL_law_949 : decode cL_law 949 = .ok (.aload_n 0, 1) := by decide +kernel
theorem dL_law_950 : decode cL_law 950 = .ok (.iload_n 3, 1) := by decide +kernel
theorem dL_law_951 : decode cL_law 951 = .ok (.iconst 1, 1) := by decide +kernel
theorem dL_law_952 : decode cL_law 952 = .ok (.iadd, 1) := by decide +kernel
theorem dL_law_953 : decode cL_law 953 = .ok (.iaload, 1) := by decide +kernel
theorem dL_law_954 : decode cL_law 954 = .ok (.invokevirtual 117, 3) := by decide +kernel
theorem dL_law_957 : decode cL_law 957 = .ok (.if_icmp .eq 133, 3) := by decide +kernel
theorem dL_law_960 : decode cL_law 960 = .ok (.iconst 0, 1) := by decide +kernel
theorem dL_law_961 : decode cL_law 961 = .ok (.ireturn, 1) := by decide +kernel
theorem dL_law_962 : decode cL_law 962 = .ok (.aload_n 1, 1) := by decide +kernel
theorem dL_law_963 : decode cL_law 963 = .ok (.aload_n 0, 1) := by decide +kernel
theorem dL_law_964 : decode cL_law 964 = .ok (.iload_n 3, 1) := by decide +kernel
theorem dL_law_965 : decode cL_law 965 = .ok (.iconst 1, 1) := by decide +kernel
theorem dL_law_966 : decode cL_law 966 = .ok (.iadd, 1) := by decide +kernel
theorem dL_law_967 : decode cL_law 967 = .ok (.iaload, 1) := by decide +kernel
theorem dL_law_968 : decode cL_law 968 = .ok (.aload_n 0, 1) := by decide +kernel
theorem dL_law_969 : decode cL_law 969 = .ok (.iload_n 3, 1) := by decide +kernel
theorem dL_law_970 : decode cL_law 970 = .ok (.iconst 2, 1) := by decide +kernel
theorem dL_law_971 : decode cL_law 971 = .ok (.iadd, 1) := by decide +kernel
theorem dL_law_972 : decode cL_law 972 = .ok (.iaload, 1) := by decide +kernel
theorem dL_law_973 : decode cL_law 973 = .ok (.invokevirtual 118, 3) := by decide +kernel
theorem dL_law_976 : decode cL_law 976 = .ok (.aload_n 2, 1) := by decide +kernel
theorem dL_law_977 : decode cL_law 977 = .ok (.aload_n 0, 1) := by decide +kernel
theorem dL_law_978 : decode cL_law 978 = .ok (.iload_n 3, 1) := by decide +kernel
theorem dL_law_979 : decode cL_law 979 = .ok (.iconst 1, 1) := by decide +kernel
theorem dL_law_980 : decode cL_law 980 = .ok (.iadd, 1) := by decide +kernel
theorem dL_law_981 : decode cL_law 981 = .ok (.iaload, 1) := by decide +kernel
theorem dL_law_982 : decode cL_law 982 = .ok (.aload_n 0, 1) := by decide +kernel
theorem dL_law_983 : decode cL_law 983 = .ok (.iload_n 3, 1) := by decide +kernel
theorem dL_law_984 : decode cL_law 984 = .ok (.iconst 2, 1) := by decide +kernel
theorem dL_law_985 : decode cL_law 985 = .ok (.iadd, 1) := by decide +kernel
theorem dL_law_986 : decode cL_law 986 = .ok (.iaload, 1) := by decide +kernel
theorem dL_law_987 : decode cL_law 987 = .ok (.invokevirtual 121, 3) := by decide +kernel
theorem dL_law_990 : decode cL_law 990 = .ok (.if_icmp .eq 100, 3) := by decide +kernel
theorem dL_law_993 : decode cL_law 993 = .ok (.iconst 0, 1) := by decide +kernel
theorem dL_law_994 : decode cL_law 994 = .ok (.ireturn, 1) := by decide +kernel
theorem dL_law_995 : decode cL_law 995 = .ok (.aload_n 1, 1) := by decide +kernel
theorem dL_law_996 : decode cL_law 996 = .ok (.aload_n 0, 1) := by decide +kernel
theorem dL_law_997 : decode cL_law 997 = .ok (.iload_n 3, 1) := by decide +kernel
theorem dL_law_998 : decode cL_law 998 = .ok (.iconst 1, 1) := by decide +kernel
theorem dL_law_999 : decode cL_law 999 = .ok (.iadd, 1) := by decide +kernel
theorem dL_law_1000 : decode cL_law 1000 = .ok (.iaload, 1) := by decide +kernel
theorem dL_law_1001 : decode cL_law 1001 = .ok (.invokevirtual 122, 3) := by decide +kernel
theorem dL_law_1004 : decode cL_law 1004 = .ok (.aload_n 2, 1) := by decide +kernel
theorem dL_law_1005 : decode cL_law 1005 = .ok (.aload_n 0, 1) := by decide +kernel
theorem dL_law_1006 : decode cL_law 1006 = .ok (.iload_n 3, 1) := by decide +kernel
theorem dL_law_1007 : decode cL_law 1007 = .ok (.iconst 1, 1) := by decide +kernel
theorem dL_law_1008 : decode cL_law 1008 = .ok (.iadd, 1) := by decide +kernel
theorem dL_law_1009 : decode cL_law 1009 = .ok (.iaload, 1) := by decide +kernel
theorem dL_law_1010 : decode cL_law 1010 = .ok (.invokevirtual 125, 3) := by decide +kernel
theorem dL_law_1013 : decode cL_law 1013 = .ok (.if_icmp .eq 77, 3) := by decide +kernel
theorem dL_law_1016 : decode cL_law 1016 = .ok (.iconst 0, 1) := by decide +kernel
theorem dL_law_1017 : decode cL_law 1017 = .ok (.ireturn, 1) := by decide +kernel
theorem dL_law_1018 : decode cL_law 1018 = .ok (.aload_n 1, 1) := by decide +kernel
theorem dL_law_1019 : decode cL_law 1019 = .ok (.aload_n 0, 1) := by decide +kernel
theorem dL_law_1020 : decode cL_law 1020 = .ok (.iload_n 3, 1) := by decide +kernel
theorem dL_law_1021 : decode cL_law 1021 = .ok (.iconst 1, 1) := by decide +kernel
theorem dL_law_1022 : decode cL_law 1022 = .ok (.iadd, 1) := by decide +kernel
theorem dL_law_1023 : decode cL_law 1023 = .ok (.iaload, 1) := by decide +kernel
theorem dL_law_1024 : decode cL_law 1024 = .ok (.invokevirtual 126, 3) := by decide +kernel
theorem dL_law_1027 : decode cL_law 1027 = .ok (.aload_n 2, 1) := by decide +kernel
theorem dL_law_1028 : decode cL_law 1028 = .ok (.aload_n 0, 1) := by decide +kernel
theorem dL_law_1029 : decode cL_law 1029 = .ok (.iload_n 3, 1) := by decide +kernel
theorem dL_law_1030 : decode cL_law 1030 = .ok (.iconst 1, 1) := by decide +kernel
theorem dL_law_1031 : decode cL_law 1031 = .ok (.iadd, 1) := by decide +kernel
theorem dL_law_1032 : decode cL_law 1032 = .ok (.iaload, 1) := by decide +kernel
theorem dL_law_1033 : decode cL_law 1033 = .ok (.invokevirtual 129, 3) := by decide +kernel
theorem dL_law_1036 : decode cL_law 1036 = .ok (.if_icmp .eq 54, 3) := by decide +kernel
theorem dL_law_1039 : decode cL_law 1039 = .ok (.iconst 0, 1) := by decide +kernel
theorem dL_law_1040 : decode cL_law 1040 = .ok (.ireturn, 1) := by decide +kernel
theorem dL_law_1041 : decode cL_law 1041 = .ok (.aload_n 1, 1) := by decide +kernel
theorem dL_law_1042 : decode cL_law 1042 = .ok (.invokevirtual 130, 3) := by decide +kernel
theorem dL_law_1045 : decode cL_law 1045 = .ok (.aload_n 2, 1) := by decide +kernel
theorem dL_law_1046 : decode cL_law 1046 = .ok (.invokevirtual 133, 3) := by decide +kernel
theorem dL_law_1049 : decode cL_law 1049 = .ok (.if_icmp .eq 41, 3) := by decide +kernel
theorem dL_law_1052 : decode cL_law 1052 = .ok (.iconst 0, 1) := by decide +kernel
theorem dL_law_1053 : decode cL_law 1053 = .ok (.ireturn, 1) := by decide +kernel
theorem dL_law_1054 : decode cL_law 1054 = .ok (.aload_n 1, 1) := by decide +kernel
theorem dL_law_1055 : decode cL_law 1055 = .ok (.invokevirtual 134, 3) := by decide +kernel
theorem dL_law_1058 : decode cL_law 1058 = .ok (.aload_n 2, 1) := by decide +kernel
theorem dL_law_1059 : decode cL_law 1059 = .ok (.invokevirtual 137, 3) := by decide +kernel
theorem dL_law_1062 : decode cL_law 1062 = .ok (.if_icmp .eq 28, 3) := by decide +kernel
theorem dL_law_1065 : decode cL_law 1065 = .ok (.iconst 0, 1) := by decide +kernel
theorem dL_law_1066 : decode cL_law 1066 = .ok (.ireturn, 1) := by decide +kernel
theorem dL_law_1067 : decode cL_law 1067 = .ok (.aload_n 1, 1) := by decide +kernel
theorem dL_law_1068 : decode cL_law 1068 = .ok (.aload_n 0, 1) := by decide +kernel
theorem dL_law_1069 : decode cL_law 1069 = .ok (.iload_n 3, 1) := by decide +kernel
theorem dL_law_1070 : decode cL_law 1070 = .ok (.iconst 1, 1) := by decide +kernel
theorem dL_law_1071 : decode cL_law 1071 = .ok (.iadd, 1) := by decide +kernel
theorem dL_law_1072 : decode cL_law 1072 = .ok (.iaload, 1) := by decide +kernel
theorem dL_law_1073 : decode cL_law 1073 = .ok (.invokevirtual 138, 3) := by decide +kernel
theorem dL_law_1076 : decode cL_law 1076 = .ok (.aload_n 2, 1) := by decide +kernel
theorem dL_law_1077 : decode cL_law 1077 = .ok (.aload_n 0, 1) := by decide +kernel
theorem dL_law_1078 : decode cL_law 1078 = .ok (.iload_n 3, 1) := by decide +kernel
theorem dL_law_1079 : decode cL_law 1079 = .ok (.iconst 1, 1) := by decide +kernel
theorem dL_law_1080 : decode cL_law 1080 = .ok (.iadd, 1) := by decide +kernel
theorem dL_law_1081 : decode cL_law 1081 = .ok (.iaload, 1) := by decide +kernel
theorem dL_law_1082 : decode cL_law 1082 = .ok (.invokevirtual 141, 3) := by decide +kernel
theorem dL_law_1085 : decode cL_law 1085 = .ok (.if_icmp .eq 5, 3) := by decide +kernel
theorem dL_law_1088 : decode cL_law 1088 = .ok (.iconst 0, 1) := by decide +kernel
theorem dL_law_1089 : decode cL_law 1089 = .ok (.ireturn, 1) := by decide +kernel
theorem dL_law_1090 : decode cL_law 1090 = .ok (.iinc 3 6, 3) := by decide +kernel
theorem dL_law_1093 : decode cL_law 1093 = .ok (.goto (-1075), 3) := by decide +kernel
theorem dL_law_1096 : decode cL_law 1096 = .ok (.iconst 1, 1) := by decide +kernel
theorem dL_law_1097 : decode cL_law 1097 = .ok (.ireturn, 1) := by decide +kernel
end
section
/-- the words that may be handed on to a callee, all of them for every method -/
def tbl : List Cond := lw_tbl.filter goodWord
theorem tbl_ok : ∀ w ∈ tbl, goodWord w = true := fun _ h => (List.mem_filter.mp h).2
theorem tbl_lw : ∀ w ∈ tbl, w ∈ lw_tbl := fun _ h => (List.mem_filter.mp h).1
theorem tbl_good {big : List Cond} (h : ∀ w ∈ tbl, w ∈ big) : GoodIn big tbl := fun w hw => ⟨h w hw, good_of_word (tbl_ok w hw)⟩
theorem tbl_t {w : Cond} (i : Nat) (h : tables_1[i]? = some w) (g : goodWord w = true) : w ∈ tbl := List.mem_filter.mpr ⟨List.mem_append_right _ (List.mem_of_getElem? h), g⟩
theorem tbl_s {w : Cond} (i : Nat) (h : (k2_sels lw_privs)[i]? = some w) (g : goodWord w = true) : w ∈ tbl := List.mem_filter.mpr ⟨List.mem_append_left _ (List.mem_of_getElem? h), g⟩
theorem tbl_c1 {w : Cond} (h : w ∈ tables_1_1) (g : goodWord w = true) : w ∈ tbl := List.mem_filter.mpr ⟨List.mem_append_right _ (List.mem_append_left _ h), g⟩
theorem tbl_c2 {w : Cond} (h : w ∈ tables_1_2) (g : goodWord w = true) : w ∈ tbl := List.mem_filter.mpr ⟨List.mem_append_right _ (List.mem_append_right _ (List.mem_append_left _ h)), g⟩
theorem tbl_c3 {w : Cond} (h : w ∈ tables_1_3) (g : goodWord w = true) : w ∈ tbl := List.mem_filter.mpr ⟨List.mem_append_right _ (List.mem_append_right _ (List.mem_append_right _ (List.mem_append_left _ h))), g⟩
theorem tbl_c4 {w : Cond} (h : w ∈ tables_1_4) (g : goodWord w = true) : w ∈ tbl := List.mem_filter.mpr ⟨List.mem_append_right _ (List.mem_append_right _ (List.mem_append_right _ (List.mem_append_right _ (List.mem_append_left _ h)))), g⟩
theorem tbl_c5 {w : Cond} (h : w ∈ tables_1_5) (g : goodWord w = true) : w ∈ tbl := List.mem_filter.mpr ⟨List.mem_append_right _ (List.mem_append_right _ (List.mem_append_right _ (List.mem_append_right _ (List.mem_append_right _ h)))), g⟩
theorem kw0 : Cond.initialized RL ∈ tbl := tbl_c1 (List.mem_of_getElem? (i := 0) (by decide +kernel)) rfl
theorem kw1 : Cond.initialized RX6 ∈ tbl := tbl_c1 (List.mem_of_getElem? (i := 1) (by decide +kernel)) rfl
theorem kw2 : Cond.initialized RX3 ∈ tbl := tbl_c1 (List.mem_of_getElem? (i := 2) (by decide +kernel)) rfl
theorem kw3 : Cond.initialized RX0 ∈ tbl := tbl_c1 (List.mem_of_getElem? (i := 3) (by decide +kernel)) rfl
theorem kw4 : Cond.initialized RX5 ∈ tbl := tbl_c1 (List.mem_of_getElem? (i := 4) (by decide +kernel)) rfl
theorem kw5 : Cond.initialized RX4 ∈ tbl := tbl_c1 (List.mem_of_getElem? (i := 5) (by decide +kernel)) rfl
theorem kw6 : Cond.initialized RX2 ∈ tbl := tbl_c1 (List.mem_of_getElem? (i := 6) (by decide +kernel)) rfl
theorem kw7 : Cond.initialized RX1 ∈ tbl := tbl_c1 (List.mem_of_getElem? (i := 7) (by decide +kernel)) rfl
theorem kw8 : Cond.initialized RX7 ∈ tbl := tbl_c1 (List.mem_of_getElem? (i := 8) (by decide +kernel)) rfl
theorem kw9 : Cond.initialized "java/lang/System" ∈ tbl := tbl_c1 (List.mem_of_getElem? (i := 9) (by decide +kernel)) rfl
theorem kw10 : Cond.initialized "java/lang/Math" ∈ tbl := tbl_c1 (List.mem_of_getElem? (i := 10) (by decide +kernel)) rfl
theorem kw11 : Cond.classLink RL 7 RX6 ∈ tbl := tbl_c1 (List.mem_of_getElem? (i := 11) (by decide +kernel)) rfl
theorem kw12 : Cond.instantiable RX6 8 ∈ tbl := tbl_c1 (List.mem_of_getElem? (i := 12) (by decide +kernel)) rfl
theorem kw13 : Cond.methodLink RL 9 yX6_init ∈ tbl := tbl_c1 (List.mem_of_getElem? (i := 13) (by decide +kernel)) rfl
theorem kw14 : Cond.instanceMethod yX6_init ∈ tbl := tbl_c1 (List.mem_of_getElem? (i := 14) (by decide +kernel)) rfl
theorem kw15 : Cond.code yX6_init cX6_init 1 none ∈ tbl := tbl_c1 (List.mem_of_getElem? (i := 15) rfl) rfl
theorem kw16 : Cond.methodLink RX6 1 objectInit ∈ tbl := tbl_c1 (List.mem_of_getElem? (i := 16) (by decide +kernel)) rfl
theorem kw17 : Cond.instanceMethod objectInit ∈ tbl := tbl_c1 (List.mem_of_getElem? (i := 17) (by decide +kernel)) rfl
theorem kw18 : Cond.code objectInit object_method_1_code 1 none ∈ tbl := tbl_c1 (List.mem_of_getElem? (i := 18) rfl) rfl
theorem kw19 : Cond.classLink RX6 7 RX3 ∈ tbl := tbl_c1 (List.mem_of_getElem? (i := 19) (by decide +kernel)) rfl
theorem kw20 : Cond.instantiable RX3 12 ∈ tbl := tbl_c1 (List.mem_of_getElem? (i := 20) (by decide +kernel)) rfl
theorem kw22 : Cond.instanceMethod yX3_init ∈ tbl := tbl_c1 (List.mem_of_getElem? (i := 22) (by decide +kernel)) rfl
theorem kw23 : Cond.code yX3_init cX3_init 1 none ∈ tbl := tbl_c1 (List.mem_of_getElem? (i := 23) rfl) rfl
theorem kw24 : Cond.methodLink RX3 3 objectInit ∈ tbl := tbl_c1 (List.mem_of_getElem? (i := 24) (by decide +kernel)) rfl
theorem kw25 : Cond.classLink RX3 9 RX0 ∈ tbl := tbl_c1 (List.mem_of_getElem? (i := 25) (by decide +kernel)) rfl
theorem kw26 : Cond.instantiable RX0 8 ∈ tbl := tbl_c1 (List.mem_of_getElem? (i := 26) (by decide +kernel)) rfl
theorem kw28 : Cond.instanceMethod yX0_init ∈ tbl := tbl_c1 (List.mem_of_getElem? (i := 28) (by decide +kernel)) rfl
theorem kw29 : Cond.code yX0_init cX0_init 1 none ∈ tbl := tbl_c1 (List.mem_of_getElem? (i := 29) rfl) rfl
theorem kw30 : Cond.methodLink RX0 3 objectInit ∈ tbl := tbl_c1 (List.mem_of_getElem? (i := 30) (by decide +kernel)) rfl
theorem kw31 : Cond.fieldLink RX0 9 "HarbourMud$Cells" "number" "I" ∈ tbl := tbl_c1 (List.mem_of_getElem? (i := 31) (by decide +kernel)) rfl
theorem kw32 : Cond.fieldLink RX6 147 "HarbourMud$Cells" "number" "I" ∈ tbl := tbl_c1 (List.mem_of_getElem? (i := 32) (by decide +kernel)) rfl
theorem kw33 : Cond.fieldLink RX0 15 "HarbourMud$Cells" "base" "[I" ∈ tbl := tbl_c1 (List.mem_of_getElem? (i := 33) (by decide +kernel)) rfl
theorem kw34 : Cond.fieldLink RX0 19 "HarbourMud$Cells" "wanted" "[I" ∈ tbl := tbl_c1 (List.mem_of_getElem? (i := 34) (by decide +kernel)) rfl
theorem kw35 : Cond.fieldLink RX0 22 "HarbourMud$Cells" "settles" "[I" ∈ tbl := tbl_c1 (List.mem_of_getElem? (i := 35) (by decide +kernel)) rfl
theorem kw36 : Cond.fieldLink RX0 25 "HarbourMud$Cells" "stirs" "[I" ∈ tbl := tbl_c1 (List.mem_of_getElem? (i := 36) (by decide +kernel)) rfl
theorem kw37 : Cond.fieldLink RX0 28 "HarbourMud$Cells" "price" "[I" ∈ tbl := tbl_c1 (List.mem_of_getElem? (i := 37) (by decide +kernel)) rfl
theorem kw38 : Cond.fieldLink RX0 31 "HarbourMud$Cells" "loose" "[I" ∈ tbl := tbl_c1 (List.mem_of_getElem? (i := 38) (by decide +kernel)) rfl
theorem kw39 : Cond.fieldLink RX3 130 "HarbourMud$Cells" "loose" "[I" ∈ tbl := tbl_c1 (List.mem_of_getElem? (i := 39) (by decide +kernel)) rfl
theorem kw40 : Cond.fieldLink RX0 34 "HarbourMud$Cells" "settled" "[I" ∈ tbl := tbl_c1 (List.mem_of_getElem? (i := 40) (by decide +kernel)) rfl
theorem kw41 : Cond.fieldLink RX3 200 "HarbourMud$Cells" "settled" "[I" ∈ tbl := tbl_c1 (List.mem_of_getElem? (i := 41) (by decide +kernel)) rfl
theorem kw59 : Cond.arrayClass .int ∈ tbl := tbl_c1 (List.mem_of_getElem? (i := 59) (by decide +kernel)) rfl
theorem kw60 : Cond.classLink RX3 18 RX5 ∈ tbl := tbl_c1 (List.mem_of_getElem? (i := 60) (by decide +kernel)) rfl
theorem kw61 : Cond.instantiable RX5 7 ∈ tbl := tbl_c1 (List.mem_of_getElem? (i := 61) (by decide +kernel)) rfl
theorem kw63 : Cond.instanceMethod yX5_init ∈ tbl := tbl_c1 (List.mem_of_getElem? (i := 63) (by decide +kernel)) rfl
theorem kw64 : Cond.code yX5_init cX5_init 1 none ∈ tbl := tbl_c1 (List.mem_of_getElem? (i := 64) rfl) rfl
theorem kw65 : Cond.methodLink RX5 3 objectInit ∈ tbl := tbl_c1 (List.mem_of_getElem? (i := 65) (by decide +kernel)) rfl
theorem kw66 : Cond.fieldLink RX5 9 "HarbourMud$Ways" "number" "I" ∈ tbl := tbl_c1 (List.mem_of_getElem? (i := 66) (by decide +kernel)) rfl
theorem kw67 : Cond.fieldLink RX3 139 "HarbourMud$Ways" "number" "I" ∈ tbl := tbl_c1 (List.mem_of_getElem? (i := 67) (by decide +kernel)) rfl
theorem kw68 : Cond.fieldLink RX6 195 "HarbourMud$Ways" "number" "I" ∈ tbl := tbl_c1 (List.mem_of_getElem? (i := 68) (by decide +kernel)) rfl
theorem kw69 : Cond.fieldLink RX5 15 "HarbourMud$Ways" "from" "[I" ∈ tbl := tbl_c1 (List.mem_of_getElem? (i := 69) (by decide +kernel)) rfl
theorem kw70 : Cond.fieldLink RX3 151 "HarbourMud$Ways" "from" "[I" ∈ tbl := tbl_c1 (List.mem_of_getElem? (i := 70) (by decide +kernel)) rfl
theorem kw71 : Cond.fieldLink RX5 19 "HarbourMud$Ways" "to" "[I" ∈ tbl := tbl_c1 (List.mem_of_getElem? (i := 71) (by decide +kernel)) rfl
theorem kw72 : Cond.fieldLink RX3 164 "HarbourMud$Ways" "to" "[I" ∈ tbl := tbl_c1 (List.mem_of_getElem? (i := 72) (by decide +kernel)) rfl
theorem kw73 : Cond.fieldLink RX5 22 "HarbourMud$Ways" "kind" "[I" ∈ tbl := tbl_c1 (List.mem_of_getElem? (i := 73) (by decide +kernel)) rfl
theorem kw74 : Cond.fieldLink RX3 142 "HarbourMud$Ways" "kind" "[I" ∈ tbl := tbl_c1 (List.mem_of_getElem? (i := 74) (by decide +kernel)) rfl
theorem kw75 : Cond.fieldLink RX5 25 "HarbourMud$Ways" "stuff" "[I" ∈ tbl := tbl_c1 (List.mem_of_getElem? (i := 75) (by decide +kernel)) rfl
theorem kw76 : Cond.fieldLink RX3 148 "HarbourMud$Ways" "stuff" "[I" ∈ tbl := tbl_c1 (List.mem_of_getElem? (i := 76) (by decide +kernel)) rfl
theorem kw77 : Cond.fieldLink RX5 28 "HarbourMud$Ways" "hundredths" "[I" ∈ tbl := tbl_c1 (List.mem_of_getElem? (i := 77) (by decide +kernel)) rfl
theorem kw78 : Cond.fieldLink RX3 158 "HarbourMud$Ways" "hundredths" "[I" ∈ tbl := tbl_c1 (List.mem_of_getElem? (i := 78) (by decide +kernel)) rfl
theorem kw79 : Cond.fieldLink RX5 31 "HarbourMud$Ways" "shutBits" "I" ∈ tbl := tbl_c1 (List.mem_of_getElem? (i := 79) (by decide +kernel)) rfl
theorem kw95 : Cond.classLink RX3 25 RX4 ∈ tbl := tbl_c1 (List.mem_of_getElem? (i := 95) (by decide +kernel)) rfl
theorem kw96 : Cond.instantiable RX4 4 ∈ tbl := tbl_c1 (List.mem_of_getElem? (i := 96) (by decide +kernel)) rfl
theorem kw98 : Cond.instanceMethod yX4_init ∈ tbl := tbl_c1 (List.mem_of_getElem? (i := 98) (by decide +kernel)) rfl
theorem kw99 : Cond.code yX4_init cX4_init 1 none ∈ tbl := tbl_c1 (List.mem_of_getElem? (i := 99) rfl) rfl
theorem kw100 : Cond.methodLink RX4 3 objectInit ∈ tbl := tbl_c1 (List.mem_of_getElem? (i := 100) (by decide +kernel)) rfl
theorem kw101 : Cond.fieldLink RX4 9 "HarbourMud$Rivers" "number" "I" ∈ tbl := tbl_c1 (List.mem_of_getElem? (i := 101) (by decide +kernel)) rfl
theorem kw102 : Cond.fieldLink RX3 171 "HarbourMud$Rivers" "number" "I" ∈ tbl := tbl_c1 (List.mem_of_getElem? (i := 102) (by decide +kernel)) rfl
theorem kw103 : Cond.fieldLink RX6 226 "HarbourMud$Rivers" "number" "I" ∈ tbl := tbl_c1 (List.mem_of_getElem? (i := 103) (by decide +kernel)) rfl
theorem kw104 : Cond.fieldLink RX4 15 "HarbourMud$Rivers" "cell" "[I" ∈ tbl := tbl_c1 (List.mem_of_getElem? (i := 104) (by decide +kernel)) rfl
theorem kw105 : Cond.fieldLink RX3 172 "HarbourMud$Rivers" "cell" "[I" ∈ tbl := tbl_c1 (List.mem_of_getElem? (i := 105) (by decide +kernel)) rfl
theorem kw106 : Cond.fieldLink RX4 19 "HarbourMud$Rivers" "stuff" "[I" ∈ tbl := tbl_c1 (List.mem_of_getElem? (i := 106) (by decide +kernel)) rfl
theorem kw107 : Cond.fieldLink RX3 175 "HarbourMud$Rivers" "stuff" "[I" ∈ tbl := tbl_c1 (List.mem_of_getElem? (i := 107) (by decide +kernel)) rfl
theorem kw108 : Cond.fieldLink RX4 22 "HarbourMud$Rivers" "tonsATide" "[I" ∈ tbl := tbl_c1 (List.mem_of_getElem? (i := 108) (by decide +kernel)) rfl
theorem kw109 : Cond.fieldLink RX3 176 "HarbourMud$Rivers" "tonsATide" "[I" ∈ tbl := tbl_c1 (List.mem_of_getElem? (i := 109) (by decide +kernel)) rfl
theorem kw110 : Cond.fieldLink RX6 206 "HarbourMud$Rivers" "tonsATide" "[I" ∈ tbl := tbl_c1 (List.mem_of_getElem? (i := 110) (by decide +kernel)) rfl
theorem kw120 : Cond.classLink RX3 32 RX2 ∈ tbl := tbl_c1 (List.mem_of_getElem? (i := 120) (by decide +kernel)) rfl
theorem kw121 : Cond.instantiable RX2 5 ∈ tbl := tbl_c1 (List.mem_of_getElem? (i := 121) (by decide +kernel)) rfl
theorem kw123 : Cond.instanceMethod yX2_init ∈ tbl := tbl_c1 (List.mem_of_getElem? (i := 123) (by decide +kernel)) rfl
theorem kw124 : Cond.code yX2_init cX2_init 1 none ∈ tbl := tbl_c1 (List.mem_of_getElem? (i := 124) rfl) rfl
theorem kw125 : Cond.methodLink RX2 3 objectInit ∈ tbl := tbl_c1 (List.mem_of_getElem? (i := 125) (by decide +kernel)) rfl
theorem kw126 : Cond.fieldLink RX2 9 "HarbourMud$Dredger" "cap" "I" ∈ tbl := tbl_c1 (List.mem_of_getElem? (i := 126) (by decide +kernel)) rfl
theorem kw127 : Cond.fieldLink RX3 197 "HarbourMud$Dredger" "cap" "I" ∈ tbl := tbl_c1 (List.mem_of_getElem? (i := 127) (by decide +kernel)) rfl
theorem kw128 : Cond.fieldLink RX6 192 "HarbourMud$Dredger" "cap" "I" ∈ tbl := tbl_c1 (List.mem_of_getElem? (i := 128) (by decide +kernel)) rfl
theorem kw129 : Cond.fieldLink RX2 15 "HarbourMud$Dredger" "drop" "I" ∈ tbl := tbl_c1 (List.mem_of_getElem? (i := 129) (by decide +kernel)) rfl
theorem kw130 : Cond.fieldLink RX3 182 "HarbourMud$Dredger" "drop" "I" ∈ tbl := tbl_c1 (List.mem_of_getElem? (i := 130) (by decide +kernel)) rfl
theorem kw131 : Cond.fieldLink RX6 157 "HarbourMud$Dredger" "drop" "I" ∈ tbl := tbl_c1 (List.mem_of_getElem? (i := 131) (by decide +kernel)) rfl
theorem kw132 : Cond.fieldLink RX2 18 "HarbourMud$Dredger" "plan" "I" ∈ tbl := tbl_c1 (List.mem_of_getElem? (i := 132) (by decide +kernel)) rfl
theorem kw133 : Cond.fieldLink RX3 179 "HarbourMud$Dredger" "plan" "I" ∈ tbl := tbl_c1 (List.mem_of_getElem? (i := 133) (by decide +kernel)) rfl
theorem kw134 : Cond.fieldLink RX6 189 "HarbourMud$Dredger" "plan" "I" ∈ tbl := tbl_c1 (List.mem_of_getElem? (i := 134) (by decide +kernel)) rfl
theorem kw135 : Cond.fieldLink RX2 21 "HarbourMud$Dredger" "toldCell" "I" ∈ tbl := tbl_c1 (List.mem_of_getElem? (i := 135) (by decide +kernel)) rfl
theorem kw136 : Cond.fieldLink RX3 187 "HarbourMud$Dredger" "toldCell" "I" ∈ tbl := tbl_c1 (List.mem_of_getElem? (i := 136) (by decide +kernel)) rfl
theorem kw137 : Cond.fieldLink RX2 24 "HarbourMud$Dredger" "fee" "I" ∈ tbl := tbl_c1 (List.mem_of_getElem? (i := 137) (by decide +kernel)) rfl
theorem kw138 : Cond.fieldLink RX3 212 "HarbourMud$Dredger" "fee" "I" ∈ tbl := tbl_c1 (List.mem_of_getElem? (i := 138) (by decide +kernel)) rfl
theorem kw150 : Cond.fieldLink RX3 12 "HarbourMud$Harbour" "cells" "LHarbourMud$Cells;" ∈ tbl := tbl_c1 (List.mem_of_getElem? (i := 150) (by decide +kernel)) rfl
theorem kw151 : Cond.fieldLink RX6 63 "HarbourMud$Harbour" "cells" "LHarbourMud$Cells;" ∈ tbl := tbl_c1 (List.mem_of_getElem? (i := 151) (by decide +kernel)) rfl
theorem kw152 : Cond.fieldLink RX1 57 "HarbourMud$Harbour" "cells" "LHarbourMud$Cells;" ∈ tbl := tbl_c1 (List.mem_of_getElem? (i := 152) (by decide +kernel)) rfl
theorem kw153 : Cond.fieldLink RX3 21 "HarbourMud$Harbour" "ways" "LHarbourMud$Ways;" ∈ tbl := tbl_c1 (List.mem_of_getElem? (i := 153) (by decide +kernel)) rfl
theorem kw154 : Cond.fieldLink RX6 88 "HarbourMud$Harbour" "ways" "LHarbourMud$Ways;" ∈ tbl := tbl_c1 (List.mem_of_getElem? (i := 154) (by decide +kernel)) rfl
theorem kw155 : Cond.fieldLink RX3 28 "HarbourMud$Harbour" "rivers" "LHarbourMud$Rivers;" ∈ tbl := tbl_c1 (List.mem_of_getElem? (i := 155) (by decide +kernel)) rfl
theorem kw156 : Cond.fieldLink RX6 196 "HarbourMud$Harbour" "rivers" "LHarbourMud$Rivers;" ∈ tbl := tbl_c1 (List.mem_of_getElem? (i := 156) (by decide +kernel)) rfl
theorem kw157 : Cond.fieldLink RX3 35 "HarbourMud$Harbour" "dredger" "LHarbourMud$Dredger;" ∈ tbl := tbl_c1 (List.mem_of_getElem? (i := 157) (by decide +kernel)) rfl
theorem kw158 : Cond.fieldLink RX6 137 "HarbourMud$Harbour" "dredger" "LHarbourMud$Dredger;" ∈ tbl := tbl_c1 (List.mem_of_getElem? (i := 158) (by decide +kernel)) rfl
theorem kw159 : Cond.fieldLink RX3 39 "HarbourMud$Harbour" "moonLength" "I" ∈ tbl := tbl_c1 (List.mem_of_getElem? (i := 159) (by decide +kernel)) rfl
theorem kw160 : Cond.fieldLink RX6 105 "HarbourMud$Harbour" "moonLength" "I" ∈ tbl := tbl_c1 (List.mem_of_getElem? (i := 160) (by decide +kernel)) rfl
theorem kw161 : Cond.fieldLink RX3 43 "HarbourMud$Harbour" "moonKinds" "I" ∈ tbl := tbl_c1 (List.mem_of_getElem? (i := 161) (by decide +kernel)) rfl
theorem kw162 : Cond.fieldLink RX3 46 "HarbourMud$Harbour" "tides" "I" ∈ tbl := tbl_c1 (List.mem_of_getElem? (i := 162) (by decide +kernel)) rfl
theorem kw163 : Cond.fieldLink RX6 166 "HarbourMud$Harbour" "tides" "I" ∈ tbl := tbl_c1 (List.mem_of_getElem? (i := 163) (by decide +kernel)) rfl
theorem kw164 : Cond.fieldLink RX3 49 "HarbourMud$Harbour" "gone" "I" ∈ tbl := tbl_c1 (List.mem_of_getElem? (i := 164) (by decide +kernel)) rfl
theorem kw165 : Cond.fieldLink RX6 230 "HarbourMud$Harbour" "gone" "I" ∈ tbl := tbl_c1 (List.mem_of_getElem? (i := 165) (by decide +kernel)) rfl
theorem kw166 : Cond.fieldLink RX3 52 "HarbourMud$Harbour" "taken" "I" ∈ tbl := tbl_c1 (List.mem_of_getElem? (i := 166) (by decide +kernel)) rfl
theorem kw167 : Cond.fieldLink RX6 233 "HarbourMud$Harbour" "taken" "I" ∈ tbl := tbl_c1 (List.mem_of_getElem? (i := 167) (by decide +kernel)) rfl
theorem kw168 : Cond.fieldLink RX3 55 "HarbourMud$Harbour" "takenLast" "I" ∈ tbl := tbl_c1 (List.mem_of_getElem? (i := 168) (by decide +kernel)) rfl
theorem kw169 : Cond.fieldLink RX6 220 "HarbourMud$Harbour" "takenLast" "I" ∈ tbl := tbl_c1 (List.mem_of_getElem? (i := 169) (by decide +kernel)) rfl
theorem kw170 : Cond.fieldLink RX3 58 "HarbourMud$Harbour" "takenToSeaLast" "I" ∈ tbl := tbl_c1 (List.mem_of_getElem? (i := 170) (by decide +kernel)) rfl
theorem kw171 : Cond.fieldLink RX3 61 "HarbourMud$Harbour" "looseBefore" "[I" ∈ tbl := tbl_c1 (List.mem_of_getElem? (i := 171) (by decide +kernel)) rfl
theorem kw197 : Cond.classLink RX6 26 RX1 ∈ tbl := tbl_c1 (List.mem_of_getElem? (i := 197) (by decide +kernel)) rfl
theorem kw198 : Cond.instantiable RX1 12 ∈ tbl := tbl_c1 (List.mem_of_getElem? (i := 198) (by decide +kernel)) rfl
theorem kw200 : Cond.instanceMethod yX1_init ∈ tbl := tbl_c1 (List.mem_of_getElem? (i := 200) (by decide +kernel)) rfl
theorem kw201 : Cond.code yX1_init cX1_init 1 none ∈ tbl := tbl_c1 (List.mem_of_getElem? (i := 201) rfl) rfl
theorem kw202 : Cond.methodLink RX1 3 objectInit ∈ tbl := tbl_c1 (List.mem_of_getElem? (i := 202) (by decide +kernel)) rfl
theorem kw203 : Cond.fieldLink RX1 9 "HarbourMud$CoastText" "length" "I" ∈ tbl := tbl_c1 (List.mem_of_getElem? (i := 203) (by decide +kernel)) rfl
theorem kw204 : Cond.fieldLink RX6 48 "HarbourMud$CoastText" "length" "I" ∈ tbl := tbl_c1 (List.mem_of_getElem? (i := 204) (by decide +kernel)) rfl
theorem kw205 : Cond.fieldLink RX1 15 "HarbourMud$CoastText" "bytes" "[I" ∈ tbl := tbl_c1 (List.mem_of_getElem? (i := 205) (by decide +kernel)) rfl
theorem kw206 : Cond.fieldLink RX1 19 "HarbourMud$CoastText" "at" "I" ∈ tbl := tbl_c1 (List.mem_of_getElem? (i := 206) (by decide +kernel)) rfl
theorem kw207 : Cond.fieldLink RX1 22 "HarbourMud$CoastText" "letter" "I" ∈ tbl := tbl_c1 (List.mem_of_getElem? (i := 207) (by decide +kernel)) rfl
theorem kw208 : Cond.fieldLink RX1 25 "HarbourMud$CoastText" "digit" "I" ∈ tbl := tbl_c1 (List.mem_of_getElem? (i := 208) (by decide +kernel)) rfl
theorem kw209 : Cond.fieldLink RX1 28 "HarbourMud$CoastText" "digitBefore" "I" ∈ tbl := tbl_c1 (List.mem_of_getElem? (i := 209) (by decide +kernel)) rfl
theorem kw210 : Cond.fieldLink RX1 31 "HarbourMud$CoastText" "kind" "I" ∈ tbl := tbl_c1 (List.mem_of_getElem? (i := 210) (by decide +kernel)) rfl
theorem kw211 : Cond.fieldLink RX1 34 "HarbourMud$CoastText" "stuff" "I" ∈ tbl := tbl_c1 (List.mem_of_getElem? (i := 211) (by decide +kernel)) rfl
theorem kw212 : Cond.fieldLink RX1 37 "HarbourMud$CoastText" "number" "I" ∈ tbl := tbl_c1 (List.mem_of_getElem? (i := 212) (by decide +kernel)) rfl
theorem kw213 : Cond.fieldLink RX1 40 "HarbourMud$CoastText" "numberBefore" "I" ∈ tbl := tbl_c1 (List.mem_of_getElem? (i := 213) (by decide +kernel)) rfl
theorem kw214 : Cond.fieldLink RX1 43 "HarbourMud$CoastText" "moonLength" "I" ∈ tbl := tbl_c1 (List.mem_of_getElem? (i := 214) (by decide +kernel)) rfl
theorem kw215 : Cond.fieldLink RX1 46 "HarbourMud$CoastText" "moonKinds" "I" ∈ tbl := tbl_c1 (List.mem_of_getElem? (i := 215) (by decide +kernel)) rfl
theorem kw241 : Cond.fieldLink RX6 10 "HarbourMud" "now" "LHarbourMud$Harbour;" ∈ tbl := tbl_c2 (List.mem_of_getElem? (i := 1) (by decide +kernel)) rfl
theorem kw242 : Cond.fieldLink RX6 16 "HarbourMud" "mind" "LHarbourMud$Harbour;" ∈ tbl := tbl_c2 (List.mem_of_getElem? (i := 2) (by decide +kernel)) rfl
theorem kw243 : Cond.fieldLink RX6 19 "HarbourMud" "kept" "LHarbourMud$Harbour;" ∈ tbl := tbl_c2 (List.mem_of_getElem? (i := 3) (by decide +kernel)) rfl
theorem kw244 : Cond.fieldLink RX6 22 "HarbourMud" "hasImage" "Z" ∈ tbl := tbl_c2 (List.mem_of_getElem? (i := 4) (by decide +kernel)) rfl
theorem kw245 : Cond.fieldLink RX6 29 "HarbourMud" "text" "LHarbourMud$CoastText;" ∈ tbl := tbl_c2 (List.mem_of_getElem? (i := 5) (by decide +kernel)) rfl
theorem kw246 : Cond.fieldLink RX6 33 "HarbourMud" "rowBytes" "[I" ∈ tbl := tbl_c2 (List.mem_of_getElem? (i := 6) (by decide +kernel)) rfl
theorem kw247 : Cond.fieldLink RX6 37 "HarbourMud" "rowLength" "I" ∈ tbl := tbl_c2 (List.mem_of_getElem? (i := 7) (by decide +kernel)) rfl
theorem kw248 : Cond.fieldLink RX6 41 "HarbourMud" "refusals" "[I" ∈ tbl := tbl_c2 (List.mem_of_getElem? (i := 8) (by decide +kernel)) rfl
theorem kw266 : Cond.methodLink RL 15 yX6_feed ∈ tbl := tbl_c2 (List.mem_of_getElem? (i := 26) (by decide +kernel)) rfl
theorem kw267 : Cond.instanceMethod yX6_feed ∈ tbl := tbl_c2 (List.mem_of_getElem? (i := 27) (by decide +kernel)) rfl
theorem kw268 : Cond.selects RX6 yX6_feed yX6_feed ∈ tbl := tbl_c2 (List.mem_of_getElem? (i := 28) (by decide +kernel)) rfl
theorem kw269 : Cond.code yX6_feed cX6_feed 5 (some .int) ∈ tbl := tbl_c2 (List.mem_of_getElem? (i := 29) rfl) rfl
theorem kw270 : Cond.methodLink RX6 44 yX6_refuse ∈ tbl := tbl_c2 (List.mem_of_getElem? (i := 30) (by decide +kernel)) rfl
theorem kw272 : Cond.instanceMethod yX6_refuse ∈ tbl := tbl_c2 (List.mem_of_getElem? (i := 32) (by decide +kernel)) rfl
theorem kw273 : Cond.code yX6_refuse cX6_refuse 3 (some .int) ∈ tbl := tbl_c2 (List.mem_of_getElem? (i := 33) rfl) rfl
theorem kw274 : Cond.methodLink RX6 51 yX1_append ∈ tbl := tbl_c2 (List.mem_of_getElem? (i := 34) (by decide +kernel)) rfl
theorem kw275 : Cond.instanceMethod yX1_append ∈ tbl := tbl_c2 (List.mem_of_getElem? (i := 35) (by decide +kernel)) rfl
theorem kw276 : Cond.selects RX1 yX1_append yX1_append ∈ tbl := tbl_c2 (List.mem_of_getElem? (i := 36) (by decide +kernel)) rfl
theorem kw277 : Cond.code yX1_append cX1_append 2 none ∈ tbl := tbl_c2 (List.mem_of_getElem? (i := 37) rfl) rfl
theorem kw278 : Cond.methodLink RL 20 yX6_coast ∈ tbl := tbl_c2 (List.mem_of_getElem? (i := 38) (by decide +kernel)) rfl
theorem kw279 : Cond.instanceMethod yX6_coast ∈ tbl := tbl_c2 (List.mem_of_getElem? (i := 39) (by decide +kernel)) rfl
theorem kw280 : Cond.selects RX6 yX6_coast yX6_coast ∈ tbl := tbl_c2 (List.mem_of_getElem? (i := 40) (by decide +kernel)) rfl
theorem kw281 : Cond.code yX6_coast cX6_coast 2 (some .int) ∈ tbl := tbl_c2 (List.mem_of_getElem? (i := 41) rfl) rfl
theorem kw282 : Cond.methodLink RX6 55 yX3_become ∈ tbl := tbl_c2 (List.mem_of_getElem? (i := 42) (by decide +kernel)) rfl
theorem kw283 : Cond.instanceMethod yX3_become ∈ tbl := tbl_c2 (List.mem_of_getElem? (i := 43) (by decide +kernel)) rfl
theorem kw284 : Cond.selects RX3 yX3_become yX3_become ∈ tbl := tbl_c2 (List.mem_of_getElem? (i := 44) (by decide +kernel)) rfl
theorem kw285 : Cond.code yX3_become cX3_become 2 none ∈ tbl := tbl_c2 (List.mem_of_getElem? (i := 45) rfl) rfl
theorem kw286 : Cond.methodLink RX3 65 yX0_become ∈ tbl := tbl_c2 (List.mem_of_getElem? (i := 46) (by decide +kernel)) rfl
theorem kw287 : Cond.instanceMethod yX0_become ∈ tbl := tbl_c2 (List.mem_of_getElem? (i := 47) (by decide +kernel)) rfl
theorem kw288 : Cond.selects RX0 yX0_become yX0_become ∈ tbl := tbl_c2 (List.mem_of_getElem? (i := 48) (by decide +kernel)) rfl
theorem kw289 : Cond.code yX0_become cX0_become 2 none ∈ tbl := tbl_c2 (List.mem_of_getElem? (i := 49) rfl) rfl
theorem kw290 : Cond.methodLink RX0 37 arraycopyName ∈ tbl := tbl_c2 (List.mem_of_getElem? (i := 50) (by decide +kernel)) rfl
theorem kw291 : Cond.static arraycopyName ∈ tbl := tbl_c2 (List.mem_of_getElem? (i := 51) (by decide +kernel)) rfl
theorem kw292 : Cond.native arraycopyName ∈ tbl := tbl_c2 (List.mem_of_getElem? (i := 52) (by decide +kernel)) rfl
theorem kw293 : Cond.methodLink RX3 69 yX5_become ∈ tbl := tbl_c2 (List.mem_of_getElem? (i := 53) (by decide +kernel)) rfl
theorem kw294 : Cond.instanceMethod yX5_become ∈ tbl := tbl_c2 (List.mem_of_getElem? (i := 54) (by decide +kernel)) rfl
theorem kw295 : Cond.selects RX5 yX5_become yX5_become ∈ tbl := tbl_c2 (List.mem_of_getElem? (i := 55) (by decide +kernel)) rfl
theorem kw296 : Cond.code yX5_become cX5_become 2 none ∈ tbl := tbl_c2 (List.mem_of_getElem? (i := 56) rfl) rfl
theorem kw297 : Cond.methodLink RX5 34 arraycopyName ∈ tbl := tbl_c2 (List.mem_of_getElem? (i := 57) (by decide +kernel)) rfl
theorem kw298 : Cond.methodLink RX3 72 yX4_become ∈ tbl := tbl_c2 (List.mem_of_getElem? (i := 58) (by decide +kernel)) rfl
theorem kw299 : Cond.instanceMethod yX4_become ∈ tbl := tbl_c2 (List.mem_of_getElem? (i := 59) (by decide +kernel)) rfl
theorem kw300 : Cond.selects RX4 yX4_become yX4_become ∈ tbl := tbl_c2 (List.mem_of_getElem? (i := 60) (by decide +kernel)) rfl
theorem kw301 : Cond.code yX4_become cX4_become 2 none ∈ tbl := tbl_c2 (List.mem_of_getElem? (i := 61) rfl) rfl
theorem kw302 : Cond.methodLink RX4 25 arraycopyName ∈ tbl := tbl_c2 (List.mem_of_getElem? (i := 62) (by decide +kernel)) rfl
theorem kw303 : Cond.methodLink RX3 75 yX2_become ∈ tbl := tbl_c2 (List.mem_of_getElem? (i := 63) (by decide +kernel)) rfl
theorem kw304 : Cond.instanceMethod yX2_become ∈ tbl := tbl_c2 (List.mem_of_getElem? (i := 64) (by decide +kernel)) rfl
theorem kw305 : Cond.selects RX2 yX2_become yX2_become ∈ tbl := tbl_c2 (List.mem_of_getElem? (i := 65) (by decide +kernel)) rfl
theorem kw306 : Cond.code yX2_become cX2_become 2 none ∈ tbl := tbl_c2 (List.mem_of_getElem? (i := 66) rfl) rfl
theorem kw307 : Cond.methodLink RX6 59 yX1_readInto ∈ tbl := tbl_c2 (List.mem_of_getElem? (i := 67) (by decide +kernel)) rfl
theorem kw308 : Cond.instanceMethod yX1_readInto ∈ tbl := tbl_c2 (List.mem_of_getElem? (i := 68) (by decide +kernel)) rfl
theorem kw309 : Cond.selects RX1 yX1_readInto yX1_readInto ∈ tbl := tbl_c2 (List.mem_of_getElem? (i := 69) (by decide +kernel)) rfl
theorem kw310 : Cond.code yX1_readInto cX1_readInto 5 (some .int) ∈ tbl := tbl_c2 (List.mem_of_getElem? (i := 70) rfl) rfl
theorem kw311 : Cond.methodLink RX1 49 yX1_readStatement ∈ tbl := tbl_c2 (List.mem_of_getElem? (i := 71) (by decide +kernel)) rfl
theorem kw313 : Cond.instanceMethod yX1_readStatement ∈ tbl := tbl_c2 (List.mem_of_getElem? (i := 73) (by decide +kernel)) rfl
theorem kw314 : Cond.code yX1_readStatement cX1_readStatement 1 (some .boolean) ∈ tbl := tbl_c2 (List.mem_of_getElem? (i := 74) rfl) rfl
theorem kw315 : Cond.methodLink RX1 81 yX1_byteHere ∈ tbl := tbl_c2 (List.mem_of_getElem? (i := 75) (by decide +kernel)) rfl
theorem kw317 : Cond.instanceMethod yX1_byteHere ∈ tbl := tbl_c2 (List.mem_of_getElem? (i := 77) (by decide +kernel)) rfl
theorem kw318 : Cond.code yX1_byteHere cX1_byteHere 1 (some .int) ∈ tbl := tbl_c2 (List.mem_of_getElem? (i := 78) rfl) rfl
theorem kw319 : Cond.methodLink RX1 85 yX1_readNumber ∈ tbl := tbl_c2 (List.mem_of_getElem? (i := 79) (by decide +kernel)) rfl
theorem kw321 : Cond.instanceMethod yX1_readNumber ∈ tbl := tbl_c2 (List.mem_of_getElem? (i := 81) (by decide +kernel)) rfl
theorem kw322 : Cond.code yX1_readNumber cX1_readNumber 4 (some .boolean) ∈ tbl := tbl_c2 (List.mem_of_getElem? (i := 82) rfl) rfl
theorem kw323 : Cond.methodLink RX1 104 yX1_digitIsHere ∈ tbl := tbl_c2 (List.mem_of_getElem? (i := 83) (by decide +kernel)) rfl
theorem kw325 : Cond.instanceMethod yX1_digitIsHere ∈ tbl := tbl_c2 (List.mem_of_getElem? (i := 85) (by decide +kernel)) rfl
theorem kw326 : Cond.code yX1_digitIsHere cX1_digitIsHere 1 (some .boolean) ∈ tbl := tbl_c2 (List.mem_of_getElem? (i := 86) rfl) rfl
theorem kw327 : Cond.methodLink RX1 88 yX1_readSign ∈ tbl := tbl_c2 (List.mem_of_getElem? (i := 87) (by decide +kernel)) rfl
theorem kw329 : Cond.instanceMethod yX1_readSign ∈ tbl := tbl_c2 (List.mem_of_getElem? (i := 89) (by decide +kernel)) rfl
theorem kw330 : Cond.code yX1_readSign cX1_readSign 2 (some .boolean) ∈ tbl := tbl_c2 (List.mem_of_getElem? (i := 90) rfl) rfl
theorem kw331 : Cond.methodLink RX1 92 yX1_readDigit ∈ tbl := tbl_c2 (List.mem_of_getElem? (i := 91) (by decide +kernel)) rfl
theorem kw333 : Cond.instanceMethod yX1_readDigit ∈ tbl := tbl_c2 (List.mem_of_getElem? (i := 93) (by decide +kernel)) rfl
theorem kw334 : Cond.code yX1_readDigit cX1_readDigit 1 (some .boolean) ∈ tbl := tbl_c2 (List.mem_of_getElem? (i := 94) rfl) rfl
theorem kw335 : Cond.methodLink RX1 95 yX1_readKind ∈ tbl := tbl_c2 (List.mem_of_getElem? (i := 95) (by decide +kernel)) rfl
theorem kw337 : Cond.instanceMethod yX1_readKind ∈ tbl := tbl_c2 (List.mem_of_getElem? (i := 97) (by decide +kernel)) rfl
theorem kw338 : Cond.code yX1_readKind cX1_readKind 1 (some .boolean) ∈ tbl := tbl_c2 (List.mem_of_getElem? (i := 98) rfl) rfl
theorem kw339 : Cond.methodLink RX1 98 yX1_readStuff ∈ tbl := tbl_c2 (List.mem_of_getElem? (i := 99) (by decide +kernel)) rfl
theorem kw341 : Cond.instanceMethod yX1_readStuff ∈ tbl := tbl_c2 (List.mem_of_getElem? (i := 101) (by decide +kernel)) rfl
theorem kw342 : Cond.code yX1_readStuff cX1_readStuff 1 (some .boolean) ∈ tbl := tbl_c2 (List.mem_of_getElem? (i := 102) rfl) rfl
theorem kw343 : Cond.methodLink RX1 101 yX1_readMoon ∈ tbl := tbl_c2 (List.mem_of_getElem? (i := 103) (by decide +kernel)) rfl
theorem kw345 : Cond.instanceMethod yX1_readMoon ∈ tbl := tbl_c2 (List.mem_of_getElem? (i := 105) (by decide +kernel)) rfl
theorem kw346 : Cond.code yX1_readMoon cX1_readMoon 2 (some .boolean) ∈ tbl := tbl_c2 (List.mem_of_getElem? (i := 106) rfl) rfl
theorem kw347 : Cond.methodLink RX1 53 yX1_giveTo ∈ tbl := tbl_c2 (List.mem_of_getElem? (i := 107) (by decide +kernel)) rfl
theorem kw349 : Cond.instanceMethod yX1_giveTo ∈ tbl := tbl_c2 (List.mem_of_getElem? (i := 109) (by decide +kernel)) rfl
theorem kw350 : Cond.code yX1_giveTo cX1_giveTo 2 (some .boolean) ∈ tbl := tbl_c2 (List.mem_of_getElem? (i := 110) rfl) rfl
theorem kw351 : Cond.methodLink RX1 63 yX0_add ∈ tbl := tbl_c2 (List.mem_of_getElem? (i := 111) (by decide +kernel)) rfl
theorem kw352 : Cond.instanceMethod yX0_add ∈ tbl := tbl_c2 (List.mem_of_getElem? (i := 112) (by decide +kernel)) rfl
theorem kw353 : Cond.selects RX0 yX0_add yX0_add ∈ tbl := tbl_c2 (List.mem_of_getElem? (i := 113) (by decide +kernel)) rfl
theorem kw354 : Cond.code yX0_add cX0_add 4 (some .int) ∈ tbl := tbl_c2 (List.mem_of_getElem? (i := 114) rfl) rfl
theorem kw355 : Cond.methodLink RX1 69 yX3_addWay ∈ tbl := tbl_c2 (List.mem_of_getElem? (i := 115) (by decide +kernel)) rfl
theorem kw356 : Cond.instanceMethod yX3_addWay ∈ tbl := tbl_c2 (List.mem_of_getElem? (i := 116) (by decide +kernel)) rfl
theorem kw357 : Cond.selects RX3 yX3_addWay yX3_addWay ∈ tbl := tbl_c2 (List.mem_of_getElem? (i := 117) (by decide +kernel)) rfl
theorem kw358 : Cond.code yX3_addWay cX3_addWay 6 (some .int) ∈ tbl := tbl_c2 (List.mem_of_getElem? (i := 118) rfl) rfl
theorem kw359 : Cond.methodLink RX3 78 yX0_has ∈ tbl := tbl_c2 (List.mem_of_getElem? (i := 119) (by decide +kernel)) rfl
theorem kw360 : Cond.instanceMethod yX0_has ∈ tbl := tbl_c2 (List.mem_of_getElem? (i := 120) (by decide +kernel)) rfl
theorem kw361 : Cond.selects RX0 yX0_has yX0_has ∈ tbl := tbl_c2 (List.mem_of_getElem? (i := 121) (by decide +kernel)) rfl
theorem kw362 : Cond.code yX0_has cX0_has 2 (some .boolean) ∈ tbl := tbl_c2 (List.mem_of_getElem? (i := 122) rfl) rfl
theorem kw364 : Cond.static yX6_isKind ∈ tbl := tbl_c2 (List.mem_of_getElem? (i := 124) (by decide +kernel)) rfl
theorem kw365 : Cond.code yX6_isKind cX6_isKind 1 (some .boolean) ∈ tbl := tbl_c2 (List.mem_of_getElem? (i := 125) rfl) rfl
theorem kw367 : Cond.static yX6_isStuff ∈ tbl := tbl_c2 (List.mem_of_getElem? (i := 127) (by decide +kernel)) rfl
theorem kw368 : Cond.code yX6_isStuff cX6_isStuff 1 (some .boolean) ∈ tbl := tbl_c2 (List.mem_of_getElem? (i := 128) rfl) rfl
theorem kw369 : Cond.methodLink RX3 88 yX5_isFull ∈ tbl := tbl_c2 (List.mem_of_getElem? (i := 129) (by decide +kernel)) rfl
theorem kw370 : Cond.instanceMethod yX5_isFull ∈ tbl := tbl_c2 (List.mem_of_getElem? (i := 130) (by decide +kernel)) rfl
theorem kw371 : Cond.selects RX5 yX5_isFull yX5_isFull ∈ tbl := tbl_c2 (List.mem_of_getElem? (i := 131) (by decide +kernel)) rfl
theorem kw372 : Cond.code yX5_isFull cX5_isFull 1 (some .boolean) ∈ tbl := tbl_c2 (List.mem_of_getElem? (i := 132) rfl) rfl
theorem kw373 : Cond.methodLink RX3 92 yX5_together ∈ tbl := tbl_c2 (List.mem_of_getElem? (i := 133) (by decide +kernel)) rfl
theorem kw374 : Cond.instanceMethod yX5_together ∈ tbl := tbl_c2 (List.mem_of_getElem? (i := 134) (by decide +kernel)) rfl
theorem kw375 : Cond.selects RX5 yX5_together yX5_together ∈ tbl := tbl_c2 (List.mem_of_getElem? (i := 135) (by decide +kernel)) rfl
theorem kw376 : Cond.code yX5_together cX5_together 6 (some .int) ∈ tbl := tbl_c2 (List.mem_of_getElem? (i := 136) rfl) rfl
theorem kw377 : Cond.methodLink RX3 96 yX5_add ∈ tbl := tbl_c2 (List.mem_of_getElem? (i := 137) (by decide +kernel)) rfl
theorem kw378 : Cond.instanceMethod yX5_add ∈ tbl := tbl_c2 (List.mem_of_getElem? (i := 138) (by decide +kernel)) rfl
theorem kw379 : Cond.selects RX5 yX5_add yX5_add ∈ tbl := tbl_c2 (List.mem_of_getElem? (i := 139) (by decide +kernel)) rfl
theorem kw380 : Cond.code yX5_add cX5_add 7 (some .int) ∈ tbl := tbl_c2 (List.mem_of_getElem? (i := 140) rfl) rfl
theorem kw381 : Cond.methodLink RX5 40 yX5_isFull ∈ tbl := tbl_c2 (List.mem_of_getElem? (i := 141) (by decide +kernel)) rfl
theorem kw382 : Cond.methodLink RX1 73 yX3_addRiver ∈ tbl := tbl_c2 (List.mem_of_getElem? (i := 142) (by decide +kernel)) rfl
theorem kw383 : Cond.instanceMethod yX3_addRiver ∈ tbl := tbl_c2 (List.mem_of_getElem? (i := 143) (by decide +kernel)) rfl
theorem kw384 : Cond.selects RX3 yX3_addRiver yX3_addRiver ∈ tbl := tbl_c2 (List.mem_of_getElem? (i := 144) (by decide +kernel)) rfl
theorem kw385 : Cond.code yX3_addRiver cX3_addRiver 4 (some .int) ∈ tbl := tbl_c2 (List.mem_of_getElem? (i := 145) rfl) rfl
theorem kw386 : Cond.methodLink RX3 100 yX4_isFull ∈ tbl := tbl_c2 (List.mem_of_getElem? (i := 146) (by decide +kernel)) rfl
theorem kw387 : Cond.instanceMethod yX4_isFull ∈ tbl := tbl_c2 (List.mem_of_getElem? (i := 147) (by decide +kernel)) rfl
theorem kw388 : Cond.selects RX4 yX4_isFull yX4_isFull ∈ tbl := tbl_c2 (List.mem_of_getElem? (i := 148) (by decide +kernel)) rfl
theorem kw389 : Cond.code yX4_isFull cX4_isFull 1 (some .boolean) ∈ tbl := tbl_c2 (List.mem_of_getElem? (i := 149) rfl) rfl
theorem kw390 : Cond.methodLink RX3 101 yX4_add ∈ tbl := tbl_c2 (List.mem_of_getElem? (i := 150) (by decide +kernel)) rfl
theorem kw391 : Cond.instanceMethod yX4_add ∈ tbl := tbl_c2 (List.mem_of_getElem? (i := 151) (by decide +kernel)) rfl
theorem kw392 : Cond.selects RX4 yX4_add yX4_add ∈ tbl := tbl_c2 (List.mem_of_getElem? (i := 152) (by decide +kernel)) rfl
theorem kw393 : Cond.code yX4_add cX4_add 5 (some .int) ∈ tbl := tbl_c2 (List.mem_of_getElem? (i := 153) rfl) rfl
theorem kw394 : Cond.methodLink RX4 31 yX4_isFull ∈ tbl := tbl_c2 (List.mem_of_getElem? (i := 154) (by decide +kernel)) rfl
theorem kw395 : Cond.methodLink RX1 77 yX3_changeMoon ∈ tbl := tbl_c2 (List.mem_of_getElem? (i := 155) (by decide +kernel)) rfl
theorem kw396 : Cond.instanceMethod yX3_changeMoon ∈ tbl := tbl_c2 (List.mem_of_getElem? (i := 156) (by decide +kernel)) rfl
theorem kw397 : Cond.selects RX3 yX3_changeMoon yX3_changeMoon ∈ tbl := tbl_c2 (List.mem_of_getElem? (i := 157) (by decide +kernel)) rfl
theorem kw398 : Cond.code yX3_changeMoon cX3_changeMoon 3 none ∈ tbl := tbl_c2 (List.mem_of_getElem? (i := 158) rfl) rfl
theorem kw399 : Cond.methodLink RL 25 yX6_cell ∈ tbl := tbl_c2 (List.mem_of_getElem? (i := 159) (by decide +kernel)) rfl
theorem kw400 : Cond.instanceMethod yX6_cell ∈ tbl := tbl_c2 (List.mem_of_getElem? (i := 160) (by decide +kernel)) rfl
theorem kw401 : Cond.selects RX6 yX6_cell yX6_cell ∈ tbl := tbl_c2 (List.mem_of_getElem? (i := 161) (by decide +kernel)) rfl
theorem kw402 : Cond.code yX6_cell cX6_cell 3 (some .int) ∈ tbl := tbl_c2 (List.mem_of_getElem? (i := 162) rfl) rfl
theorem kw403 : Cond.methodLink RX6 67 yX0_add ∈ tbl := tbl_c2 (List.mem_of_getElem? (i := 163) (by decide +kernel)) rfl
theorem kw404 : Cond.methodLink RX6 73 yX6_refuseIfBelow0 ∈ tbl := tbl_c2 (List.mem_of_getElem? (i := 164) (by decide +kernel)) rfl
theorem kw406 : Cond.instanceMethod yX6_refuseIfBelow0 ∈ tbl := tbl_c2 (List.mem_of_getElem? (i := 166) (by decide +kernel)) rfl
theorem kw407 : Cond.code yX6_refuseIfBelow0 cX6_refuseIfBelow0 2 (some .int) ∈ tbl := tbl_c2 (List.mem_of_getElem? (i := 167) rfl) rfl
theorem kw408 : Cond.methodLink RL 30 yX6_set ∈ tbl := tbl_c2 (List.mem_of_getElem? (i := 168) (by decide +kernel)) rfl
theorem kw409 : Cond.instanceMethod yX6_set ∈ tbl := tbl_c2 (List.mem_of_getElem? (i := 169) (by decide +kernel)) rfl
theorem kw410 : Cond.selects RX6 yX6_set yX6_set ∈ tbl := tbl_c2 (List.mem_of_getElem? (i := 170) (by decide +kernel)) rfl
theorem kw411 : Cond.code yX6_set cX6_set 6 (some .int) ∈ tbl := tbl_c2 (List.mem_of_getElem? (i := 171) rfl) rfl
theorem kw412 : Cond.methodLink RX6 76 yX0_has ∈ tbl := tbl_c2 (List.mem_of_getElem? (i := 172) (by decide +kernel)) rfl
theorem kw413 : Cond.methodLink RX6 80 yX0_valuesOf ∈ tbl := tbl_c2 (List.mem_of_getElem? (i := 173) (by decide +kernel)) rfl
theorem kw414 : Cond.instanceMethod yX0_valuesOf ∈ tbl := tbl_c2 (List.mem_of_getElem? (i := 174) (by decide +kernel)) rfl
theorem kw415 : Cond.selects RX0 yX0_valuesOf yX0_valuesOf ∈ tbl := tbl_c2 (List.mem_of_getElem? (i := 175) (by decide +kernel)) rfl
theorem kw416 : Cond.code yX0_valuesOf cX0_valuesOf 2 (some (.array .int)) ∈ tbl := tbl_c2 (List.mem_of_getElem? (i := 176) rfl) rfl
theorem kw417 : Cond.methodLink RL 35 yX6_way ∈ tbl := tbl_c2 (List.mem_of_getElem? (i := 177) (by decide +kernel)) rfl
theorem kw418 : Cond.instanceMethod yX6_way ∈ tbl := tbl_c2 (List.mem_of_getElem? (i := 178) (by decide +kernel)) rfl
theorem kw419 : Cond.selects RX6 yX6_way yX6_way ∈ tbl := tbl_c2 (List.mem_of_getElem? (i := 179) (by decide +kernel)) rfl
theorem kw420 : Cond.code yX6_way cX6_way 5 (some .int) ∈ tbl := tbl_c2 (List.mem_of_getElem? (i := 180) rfl) rfl
theorem kw421 : Cond.methodLink RX6 84 yX3_addWay ∈ tbl := tbl_c2 (List.mem_of_getElem? (i := 181) (by decide +kernel)) rfl
theorem kw422 : Cond.methodLink RL 40 yX6_shut ∈ tbl := tbl_c2 (List.mem_of_getElem? (i := 182) (by decide +kernel)) rfl
theorem kw423 : Cond.instanceMethod yX6_shut ∈ tbl := tbl_c2 (List.mem_of_getElem? (i := 183) (by decide +kernel)) rfl
theorem kw424 : Cond.selects RX6 yX6_shut yX6_shut ∈ tbl := tbl_c2 (List.mem_of_getElem? (i := 184) (by decide +kernel)) rfl
theorem kw425 : Cond.code yX6_shut cX6_shut 3 (some .int) ∈ tbl := tbl_c2 (List.mem_of_getElem? (i := 185) rfl) rfl
theorem kw426 : Cond.methodLink RX6 92 yX5_has ∈ tbl := tbl_c2 (List.mem_of_getElem? (i := 186) (by decide +kernel)) rfl
theorem kw427 : Cond.instanceMethod yX5_has ∈ tbl := tbl_c2 (List.mem_of_getElem? (i := 187) (by decide +kernel)) rfl
theorem kw428 : Cond.selects RX5 yX5_has yX5_has ∈ tbl := tbl_c2 (List.mem_of_getElem? (i := 188) (by decide +kernel)) rfl
theorem kw429 : Cond.code yX5_has cX5_has 2 (some .boolean) ∈ tbl := tbl_c2 (List.mem_of_getElem? (i := 189) rfl) rfl
theorem kw430 : Cond.methodLink RX6 95 yX5_isShut ∈ tbl := tbl_c2 (List.mem_of_getElem? (i := 190) (by decide +kernel)) rfl
theorem kw431 : Cond.instanceMethod yX5_isShut ∈ tbl := tbl_c2 (List.mem_of_getElem? (i := 191) (by decide +kernel)) rfl
theorem kw432 : Cond.selects RX5 yX5_isShut yX5_isShut ∈ tbl := tbl_c2 (List.mem_of_getElem? (i := 192) (by decide +kernel)) rfl
theorem kw433 : Cond.code yX5_isShut cX5_isShut 2 (some .boolean) ∈ tbl := tbl_c2 (List.mem_of_getElem? (i := 193) rfl) rfl
theorem kw434 : Cond.methodLink RX6 98 yX5_turn ∈ tbl := tbl_c2 (List.mem_of_getElem? (i := 194) (by decide +kernel)) rfl
theorem kw435 : Cond.instanceMethod yX5_turn ∈ tbl := tbl_c2 (List.mem_of_getElem? (i := 195) (by decide +kernel)) rfl
theorem kw436 : Cond.selects RX5 yX5_turn yX5_turn ∈ tbl := tbl_c2 (List.mem_of_getElem? (i := 196) (by decide +kernel)) rfl
theorem kw437 : Cond.code yX5_turn cX5_turn 2 none ∈ tbl := tbl_c2 (List.mem_of_getElem? (i := 197) rfl) rfl
theorem kw438 : Cond.methodLink RL 45 yX6_river ∈ tbl := tbl_c2 (List.mem_of_getElem? (i := 198) (by decide +kernel)) rfl
theorem kw439 : Cond.instanceMethod yX6_river ∈ tbl := tbl_c2 (List.mem_of_getElem? (i := 199) (by decide +kernel)) rfl
theorem kw440 : Cond.selects RX6 yX6_river yX6_river ∈ tbl := tbl_c2 (List.mem_of_getElem? (i := 200) (by decide +kernel)) rfl
theorem kw441 : Cond.code yX6_river cX6_river 4 (some .int) ∈ tbl := tbl_c2 (List.mem_of_getElem? (i := 201) rfl) rfl
theorem kw442 : Cond.methodLink RX6 101 yX3_addRiver ∈ tbl := tbl_c2 (List.mem_of_getElem? (i := 202) (by decide +kernel)) rfl
theorem kw443 : Cond.methodLink RL 49 yX6_moon ∈ tbl := tbl_c2 (List.mem_of_getElem? (i := 203) (by decide +kernel)) rfl
theorem kw444 : Cond.instanceMethod yX6_moon ∈ tbl := tbl_c2 (List.mem_of_getElem? (i := 204) (by decide +kernel)) rfl
theorem kw445 : Cond.selects RX6 yX6_moon yX6_moon ∈ tbl := tbl_c2 (List.mem_of_getElem? (i := 205) (by decide +kernel)) rfl
theorem kw446 : Cond.code yX6_moon cX6_moon 4 (some .int) ∈ tbl := tbl_c2 (List.mem_of_getElem? (i := 206) rfl) rfl
theorem kw447 : Cond.methodLink RX6 108 yX3_changeMoon ∈ tbl := tbl_c2 (List.mem_of_getElem? (i := 207) (by decide +kernel)) rfl
theorem kw448 : Cond.methodLink RL 53 yX6_put ∈ tbl := tbl_c2 (List.mem_of_getElem? (i := 208) (by decide +kernel)) rfl
theorem kw449 : Cond.instanceMethod yX6_put ∈ tbl := tbl_c2 (List.mem_of_getElem? (i := 209) (by decide +kernel)) rfl
theorem kw450 : Cond.selects RX6 yX6_put yX6_put ∈ tbl := tbl_c2 (List.mem_of_getElem? (i := 210) (by decide +kernel)) rfl
theorem kw451 : Cond.code yX6_put cX6_put 8 (some .int) ∈ tbl := tbl_c2 (List.mem_of_getElem? (i := 211) rfl) rfl
theorem kw452 : Cond.methodLink RX6 112 yX6_isStuff ∈ tbl := tbl_c2 (List.mem_of_getElem? (i := 212) (by decide +kernel)) rfl
theorem kw453 : Cond.methodLink RX6 115 yX0_heapsOf ∈ tbl := tbl_c2 (List.mem_of_getElem? (i := 213) (by decide +kernel)) rfl
theorem kw454 : Cond.instanceMethod yX0_heapsOf ∈ tbl := tbl_c2 (List.mem_of_getElem? (i := 214) (by decide +kernel)) rfl
theorem kw455 : Cond.selects RX0 yX0_heapsOf yX0_heapsOf ∈ tbl := tbl_c2 (List.mem_of_getElem? (i := 215) (by decide +kernel)) rfl
theorem kw456 : Cond.code yX0_heapsOf cX0_heapsOf 2 (some (.array .int)) ∈ tbl := tbl_c2 (List.mem_of_getElem? (i := 216) rfl) rfl
theorem kw457 : Cond.methodLink RX6 119 yX6_heapOf ∈ tbl := tbl_c2 (List.mem_of_getElem? (i := 217) (by decide +kernel)) rfl
theorem kw458 : Cond.static yX6_heapOf ∈ tbl := tbl_c2 (List.mem_of_getElem? (i := 218) (by decide +kernel)) rfl
theorem kw459 : Cond.code yX6_heapOf cX6_heapOf 2 (some .int) ∈ tbl := tbl_c2 (List.mem_of_getElem? (i := 219) rfl) rfl
theorem kw460 : Cond.methodLink RX6 122 Lib.Math.max.name ∈ tbl := tbl_c2 (List.mem_of_getElem? (i := 220) (by decide +kernel)) rfl
theorem kw461 : Cond.static Lib.Math.max.name ∈ tbl := tbl_c2 (List.mem_of_getElem? (i := 221) (by decide +kernel)) rfl
theorem kw462 : Cond.code Lib.Math.max.name Lib.Math.max.code 2 (some .int) ∈ tbl := tbl_c2 (List.mem_of_getElem? (i := 222) rfl) rfl
theorem kw463 : Cond.constant RX6 127 (1000000) ∈ tbl := tbl_c2 (List.mem_of_getElem? (i := 223) (by decide +kernel)) rfl
theorem kw464 : Cond.methodLink RL 58 yX6_tons ∈ tbl := tbl_c2 (List.mem_of_getElem? (i := 224) (by decide +kernel)) rfl
theorem kw465 : Cond.instanceMethod yX6_tons ∈ tbl := tbl_c2 (List.mem_of_getElem? (i := 225) (by decide +kernel)) rfl
theorem kw466 : Cond.selects RX6 yX6_tons yX6_tons ∈ tbl := tbl_c2 (List.mem_of_getElem? (i := 226) (by decide +kernel)) rfl
theorem kw467 : Cond.code yX6_tons cX6_tons 4 (some .int) ∈ tbl := tbl_c2 (List.mem_of_getElem? (i := 227) rfl) rfl
theorem kw468 : Cond.methodLink RL 63 yX6_depth ∈ tbl := tbl_c2 (List.mem_of_getElem? (i := 228) (by decide +kernel)) rfl
theorem kw469 : Cond.instanceMethod yX6_depth ∈ tbl := tbl_c2 (List.mem_of_getElem? (i := 229) (by decide +kernel)) rfl
theorem kw470 : Cond.selects RX6 yX6_depth yX6_depth ∈ tbl := tbl_c2 (List.mem_of_getElem? (i := 230) (by decide +kernel)) rfl
theorem kw471 : Cond.code yX6_depth cX6_depth 2 (some .int) ∈ tbl := tbl_c2 (List.mem_of_getElem? (i := 231) rfl) rfl
theorem kw472 : Cond.methodLink RX6 128 yX0_depthOf ∈ tbl := tbl_c2 (List.mem_of_getElem? (i := 232) (by decide +kernel)) rfl
theorem kw473 : Cond.instanceMethod yX0_depthOf ∈ tbl := tbl_c2 (List.mem_of_getElem? (i := 233) (by decide +kernel)) rfl
theorem kw474 : Cond.selects RX0 yX0_depthOf yX0_depthOf ∈ tbl := tbl_c2 (List.mem_of_getElem? (i := 234) (by decide +kernel)) rfl
theorem kw475 : Cond.code yX0_depthOf cX0_depthOf 2 (some .int) ∈ tbl := tbl_c2 (List.mem_of_getElem? (i := 235) rfl) rfl
theorem kw476 : Cond.methodLink RX0 43 yX0_settledIn ∈ tbl := tbl_c2 (List.mem_of_getElem? (i := 236) (by decide +kernel)) rfl
theorem kw477 : Cond.instanceMethod yX0_settledIn ∈ tbl := tbl_c2 (List.mem_of_getElem? (i := 237) (by decide +kernel)) rfl
theorem kw478 : Cond.selects RX0 yX0_settledIn yX0_settledIn ∈ tbl := tbl_c2 (List.mem_of_getElem? (i := 238) (by decide +kernel)) rfl
theorem kw479 : Cond.code yX0_settledIn cX0_settledIn 2 (some .int) ∈ tbl := tbl_c2 (List.mem_of_getElem? (i := 239) rfl) rfl
theorem kw481 : Cond.static yX6_depthAbove ∈ tbl := tbl_c3 (List.mem_of_getElem? (i := 1) (by decide +kernel)) rfl
theorem kw482 : Cond.code yX6_depthAbove cX6_depthAbove 2 (some .int) ∈ tbl := tbl_c3 (List.mem_of_getElem? (i := 2) rfl) rfl
theorem kw483 : Cond.methodLink RL 68 yX6_lacks ∈ tbl := tbl_c3 (List.mem_of_getElem? (i := 3) (by decide +kernel)) rfl
theorem kw484 : Cond.instanceMethod yX6_lacks ∈ tbl := tbl_c3 (List.mem_of_getElem? (i := 4) (by decide +kernel)) rfl
theorem kw485 : Cond.selects RX6 yX6_lacks yX6_lacks ∈ tbl := tbl_c3 (List.mem_of_getElem? (i := 5) (by decide +kernel)) rfl
theorem kw486 : Cond.code yX6_lacks cX6_lacks 2 (some .int) ∈ tbl := tbl_c3 (List.mem_of_getElem? (i := 6) rfl) rfl
theorem kw487 : Cond.constant RX6 131 (-1000000000) ∈ tbl := tbl_c3 (List.mem_of_getElem? (i := 7) (by decide +kernel)) rfl
theorem kw488 : Cond.methodLink RX6 132 yX0_lackOf ∈ tbl := tbl_c3 (List.mem_of_getElem? (i := 8) (by decide +kernel)) rfl
theorem kw489 : Cond.instanceMethod yX0_lackOf ∈ tbl := tbl_c3 (List.mem_of_getElem? (i := 9) (by decide +kernel)) rfl
theorem kw490 : Cond.selects RX0 yX0_lackOf yX0_lackOf ∈ tbl := tbl_c3 (List.mem_of_getElem? (i := 10) (by decide +kernel)) rfl
theorem kw491 : Cond.code yX0_lackOf cX0_lackOf 2 (some .int) ∈ tbl := tbl_c3 (List.mem_of_getElem? (i := 11) rfl) rfl
theorem kw492 : Cond.methodLink RL 72 yX6_dredger ∈ tbl := tbl_c3 (List.mem_of_getElem? (i := 12) (by decide +kernel)) rfl
theorem kw493 : Cond.instanceMethod yX6_dredger ∈ tbl := tbl_c3 (List.mem_of_getElem? (i := 13) (by decide +kernel)) rfl
theorem kw494 : Cond.selects RX6 yX6_dredger yX6_dredger ∈ tbl := tbl_c3 (List.mem_of_getElem? (i := 14) (by decide +kernel)) rfl
theorem kw495 : Cond.code yX6_dredger cX6_dredger 4 (some .int) ∈ tbl := tbl_c3 (List.mem_of_getElem? (i := 15) rfl) rfl
theorem kw496 : Cond.methodLink RX6 141 yX2_change ∈ tbl := tbl_c3 (List.mem_of_getElem? (i := 16) (by decide +kernel)) rfl
theorem kw497 : Cond.instanceMethod yX2_change ∈ tbl := tbl_c3 (List.mem_of_getElem? (i := 17) (by decide +kernel)) rfl
theorem kw498 : Cond.selects RX2 yX2_change yX2_change ∈ tbl := tbl_c3 (List.mem_of_getElem? (i := 18) (by decide +kernel)) rfl
theorem kw499 : Cond.code yX2_change cX2_change 4 (some .int) ∈ tbl := tbl_c3 (List.mem_of_getElem? (i := 19) rfl) rfl
theorem kw500 : Cond.methodLink RX6 144 yX2_greatest ∈ tbl := tbl_c3 (List.mem_of_getElem? (i := 20) (by decide +kernel)) rfl
theorem kw501 : Cond.static yX2_greatest ∈ tbl := tbl_c3 (List.mem_of_getElem? (i := 21) (by decide +kernel)) rfl
theorem kw502 : Cond.code yX2_greatest cX2_greatest 1 (some .int) ∈ tbl := tbl_c3 (List.mem_of_getElem? (i := 22) rfl) rfl
theorem kw503 : Cond.methodLink RL 76 yX6_takes ∈ tbl := tbl_c3 (List.mem_of_getElem? (i := 23) (by decide +kernel)) rfl
theorem kw504 : Cond.instanceMethod yX6_takes ∈ tbl := tbl_c3 (List.mem_of_getElem? (i := 24) (by decide +kernel)) rfl
theorem kw505 : Cond.selects RX6 yX6_takes yX6_takes ∈ tbl := tbl_c3 (List.mem_of_getElem? (i := 25) (by decide +kernel)) rfl
theorem kw506 : Cond.code yX6_takes cX6_takes 2 (some .int) ∈ tbl := tbl_c3 (List.mem_of_getElem? (i := 26) rfl) rfl
theorem kw507 : Cond.methodLink RX6 150 yX3_kindNow ∈ tbl := tbl_c3 (List.mem_of_getElem? (i := 27) (by decide +kernel)) rfl
theorem kw508 : Cond.instanceMethod yX3_kindNow ∈ tbl := tbl_c3 (List.mem_of_getElem? (i := 28) (by decide +kernel)) rfl
theorem kw509 : Cond.selects RX3 yX3_kindNow yX3_kindNow ∈ tbl := tbl_c3 (List.mem_of_getElem? (i := 29) (by decide +kernel)) rfl
theorem kw510 : Cond.code yX3_kindNow cX3_kindNow 1 (some .int) ∈ tbl := tbl_c3 (List.mem_of_getElem? (i := 30) rfl) rfl
theorem kw511 : Cond.methodLink RX6 154 yX3_plannedCell ∈ tbl := tbl_c3 (List.mem_of_getElem? (i := 31) (by decide +kernel)) rfl
theorem kw512 : Cond.instanceMethod yX3_plannedCell ∈ tbl := tbl_c3 (List.mem_of_getElem? (i := 32) (by decide +kernel)) rfl
theorem kw513 : Cond.selects RX3 yX3_plannedCell yX3_plannedCell ∈ tbl := tbl_c3 (List.mem_of_getElem? (i := 33) (by decide +kernel)) rfl
theorem kw514 : Cond.code yX3_plannedCell cX3_plannedCell 2 (some .int) ∈ tbl := tbl_c3 (List.mem_of_getElem? (i := 34) rfl) rfl
theorem kw515 : Cond.methodLink RX3 184 yX0_nearest ∈ tbl := tbl_c3 (List.mem_of_getElem? (i := 35) (by decide +kernel)) rfl
theorem kw516 : Cond.instanceMethod yX0_nearest ∈ tbl := tbl_c3 (List.mem_of_getElem? (i := 36) (by decide +kernel)) rfl
theorem kw517 : Cond.selects RX0 yX0_nearest yX0_nearest ∈ tbl := tbl_c3 (List.mem_of_getElem? (i := 37) (by decide +kernel)) rfl
theorem kw518 : Cond.code yX0_nearest cX0_nearest 5 (some .int) ∈ tbl := tbl_c3 (List.mem_of_getElem? (i := 38) rfl) rfl
theorem kw519 : Cond.methodLink RX0 51 yX0_lackOf ∈ tbl := tbl_c3 (List.mem_of_getElem? (i := 39) (by decide +kernel)) rfl
theorem kw520 : Cond.methodLink RX3 190 yX0_fullest ∈ tbl := tbl_c3 (List.mem_of_getElem? (i := 40) (by decide +kernel)) rfl
theorem kw521 : Cond.instanceMethod yX0_fullest ∈ tbl := tbl_c3 (List.mem_of_getElem? (i := 41) (by decide +kernel)) rfl
theorem kw522 : Cond.selects RX0 yX0_fullest yX0_fullest ∈ tbl := tbl_c3 (List.mem_of_getElem? (i := 42) (by decide +kernel)) rfl
theorem kw523 : Cond.code yX0_fullest cX0_fullest 5 (some .int) ∈ tbl := tbl_c3 (List.mem_of_getElem? (i := 43) rfl) rfl
theorem kw524 : Cond.methodLink RL 80 yX6_go ∈ tbl := tbl_c3 (List.mem_of_getElem? (i := 44) (by decide +kernel)) rfl
theorem kw525 : Cond.instanceMethod yX6_go ∈ tbl := tbl_c3 (List.mem_of_getElem? (i := 45) (by decide +kernel)) rfl
theorem kw526 : Cond.selects RX6 yX6_go yX6_go ∈ tbl := tbl_c3 (List.mem_of_getElem? (i := 46) (by decide +kernel)) rfl
theorem kw527 : Cond.code yX6_go cX6_go 3 (some .int) ∈ tbl := tbl_c3 (List.mem_of_getElem? (i := 47) rfl) rfl
theorem kw528 : Cond.methodLink RX6 160 yX6_whyNoRun ∈ tbl := tbl_c3 (List.mem_of_getElem? (i := 48) (by decide +kernel)) rfl
theorem kw530 : Cond.instanceMethod yX6_whyNoRun ∈ tbl := tbl_c3 (List.mem_of_getElem? (i := 50) (by decide +kernel)) rfl
theorem kw531 : Cond.code yX6_whyNoRun cX6_whyNoRun 2 (some .int) ∈ tbl := tbl_c3 (List.mem_of_getElem? (i := 51) rfl) rfl
theorem kw532 : Cond.methodLink RX6 163 yX3_goOn ∈ tbl := tbl_c3 (List.mem_of_getElem? (i := 52) (by decide +kernel)) rfl
theorem kw533 : Cond.instanceMethod yX3_goOn ∈ tbl := tbl_c3 (List.mem_of_getElem? (i := 53) (by decide +kernel)) rfl
theorem kw534 : Cond.selects RX3 yX3_goOn yX3_goOn ∈ tbl := tbl_c3 (List.mem_of_getElem? (i := 54) (by decide +kernel)) rfl
theorem kw535 : Cond.code yX3_goOn cX3_goOn 4 none ∈ tbl := tbl_c3 (List.mem_of_getElem? (i := 55) rfl) rfl
theorem kw536 : Cond.methodLink RX3 127 yX3_goBy ∈ tbl := tbl_c3 (List.mem_of_getElem? (i := 56) (by decide +kernel)) rfl
theorem kw537 : Cond.instanceMethod yX3_goBy ∈ tbl := tbl_c3 (List.mem_of_getElem? (i := 57) (by decide +kernel)) rfl
theorem kw538 : Cond.selects RX3 yX3_goBy yX3_goBy ∈ tbl := tbl_c3 (List.mem_of_getElem? (i := 58) (by decide +kernel)) rfl
theorem kw539 : Cond.code yX3_goBy cX3_goBy 3 none ∈ tbl := tbl_c3 (List.mem_of_getElem? (i := 59) rfl) rfl
theorem kw540 : Cond.methodLink RX3 103 yX3_kindNow ∈ tbl := tbl_c3 (List.mem_of_getElem? (i := 60) (by decide +kernel)) rfl
theorem kw541 : Cond.methodLink RX3 107 yX0_stir ∈ tbl := tbl_c3 (List.mem_of_getElem? (i := 61) (by decide +kernel)) rfl
theorem kw542 : Cond.instanceMethod yX0_stir ∈ tbl := tbl_c3 (List.mem_of_getElem? (i := 62) (by decide +kernel)) rfl
theorem kw543 : Cond.selects RX0 yX0_stir yX0_stir ∈ tbl := tbl_c3 (List.mem_of_getElem? (i := 63) (by decide +kernel)) rfl
theorem kw544 : Cond.code yX0_stir cX0_stir 5 none ∈ tbl := tbl_c3 (List.mem_of_getElem? (i := 64) rfl) rfl
theorem kw547 : Cond.static yX6_partOf ∈ tbl := tbl_c3 (List.mem_of_getElem? (i := 67) (by decide +kernel)) rfl
theorem kw548 : Cond.code yX6_partOf cX6_partOf 2 (some .int) ∈ tbl := tbl_c3 (List.mem_of_getElem? (i := 68) rfl) rfl
theorem kw549 : Cond.constantLong RX6 236 (100) ∈ tbl := tbl_c3 (List.mem_of_getElem? (i := 69) (by decide +kernel)) rfl
theorem kw550 : Cond.methodLink RX3 110 yX3_carry ∈ tbl := tbl_c3 (List.mem_of_getElem? (i := 70) (by decide +kernel)) rfl
theorem kw552 : Cond.instanceMethod yX3_carry ∈ tbl := tbl_c3 (List.mem_of_getElem? (i := 72) (by decide +kernel)) rfl
theorem kw553 : Cond.code yX3_carry cX3_carry 6 none ∈ tbl := tbl_c3 (List.mem_of_getElem? (i := 73) rfl) rfl
theorem kw554 : Cond.methodLink RX3 133 arraycopyName ∈ tbl := tbl_c3 (List.mem_of_getElem? (i := 74) (by decide +kernel)) rfl
theorem kw555 : Cond.methodLink RX3 145 yX5_isShut ∈ tbl := tbl_c3 (List.mem_of_getElem? (i := 75) (by decide +kernel)) rfl
theorem kw558 : Cond.methodLink RX3 167 yX3_drop ∈ tbl := tbl_c3 (List.mem_of_getElem? (i := 78) (by decide +kernel)) rfl
theorem kw559 : Cond.instanceMethod yX3_drop ∈ tbl := tbl_c3 (List.mem_of_getElem? (i := 79) (by decide +kernel)) rfl
theorem kw560 : Cond.selects RX3 yX3_drop yX3_drop ∈ tbl := tbl_c3 (List.mem_of_getElem? (i := 80) (by decide +kernel)) rfl
theorem kw561 : Cond.code yX3_drop cX3_drop 4 none ∈ tbl := tbl_c3 (List.mem_of_getElem? (i := 81) rfl) rfl
theorem kw562 : Cond.methodLink RX3 114 yX3_bring ∈ tbl := tbl_c3 (List.mem_of_getElem? (i := 82) (by decide +kernel)) rfl
theorem kw564 : Cond.instanceMethod yX3_bring ∈ tbl := tbl_c3 (List.mem_of_getElem? (i := 84) (by decide +kernel)) rfl
theorem kw565 : Cond.code yX3_bring cX3_bring 2 none ∈ tbl := tbl_c3 (List.mem_of_getElem? (i := 85) rfl) rfl
theorem kw566 : Cond.methodLink RX3 117 yX0_settle ∈ tbl := tbl_c3 (List.mem_of_getElem? (i := 86) (by decide +kernel)) rfl
theorem kw567 : Cond.instanceMethod yX0_settle ∈ tbl := tbl_c3 (List.mem_of_getElem? (i := 87) (by decide +kernel)) rfl
theorem kw568 : Cond.selects RX0 yX0_settle yX0_settle ∈ tbl := tbl_c3 (List.mem_of_getElem? (i := 88) (by decide +kernel)) rfl
theorem kw569 : Cond.code yX0_settle cX0_settle 5 none ∈ tbl := tbl_c3 (List.mem_of_getElem? (i := 89) rfl) rfl
theorem kw570 : Cond.methodLink RX3 120 yX3_plannedCell ∈ tbl := tbl_c3 (List.mem_of_getElem? (i := 90) (by decide +kernel)) rfl
theorem kw571 : Cond.methodLink RX3 124 yX3_dredge ∈ tbl := tbl_c3 (List.mem_of_getElem? (i := 91) (by decide +kernel)) rfl
theorem kw573 : Cond.instanceMethod yX3_dredge ∈ tbl := tbl_c3 (List.mem_of_getElem? (i := 93) (by decide +kernel)) rfl
theorem kw574 : Cond.code yX3_dredge cX3_dredge 2 none ∈ tbl := tbl_c3 (List.mem_of_getElem? (i := 94) rfl) rfl
theorem kw575 : Cond.methodLink RX3 193 yX3_dredgeStuff ∈ tbl := tbl_c3 (List.mem_of_getElem? (i := 95) (by decide +kernel)) rfl
theorem kw577 : Cond.instanceMethod yX3_dredgeStuff ∈ tbl := tbl_c3 (List.mem_of_getElem? (i := 97) (by decide +kernel)) rfl
theorem kw578 : Cond.code yX3_dredgeStuff cX3_dredgeStuff 5 none ∈ tbl := tbl_c3 (List.mem_of_getElem? (i := 98) rfl) rfl
theorem kw579 : Cond.methodLink RX3 203 Lib.Math.min.name ∈ tbl := tbl_c3 (List.mem_of_getElem? (i := 99) (by decide +kernel)) rfl
theorem kw580 : Cond.static Lib.Math.min.name ∈ tbl := tbl_c3 (List.mem_of_getElem? (i := 100) (by decide +kernel)) rfl
theorem kw581 : Cond.code Lib.Math.min.name Lib.Math.min.code 2 (some .int) ∈ tbl := tbl_c3 (List.mem_of_getElem? (i := 101) rfl) rfl
theorem kw582 : Cond.methodLink RL 84 yX6_cost ∈ tbl := tbl_c3 (List.mem_of_getElem? (i := 102) (by decide +kernel)) rfl
theorem kw583 : Cond.instanceMethod yX6_cost ∈ tbl := tbl_c3 (List.mem_of_getElem? (i := 103) (by decide +kernel)) rfl
theorem kw584 : Cond.selects RX6 yX6_cost yX6_cost ∈ tbl := tbl_c3 (List.mem_of_getElem? (i := 104) (by decide +kernel)) rfl
theorem kw585 : Cond.code yX6_cost cX6_cost 3 (some .long) ∈ tbl := tbl_c3 (List.mem_of_getElem? (i := 105) rfl) rfl
theorem kw586 : Cond.constantLong RX6 169 (-4000000000000000000) ∈ tbl := tbl_c3 (List.mem_of_getElem? (i := 106) (by decide +kernel)) rfl
theorem kw587 : Cond.constantLong RX6 171 (4000000000000000000) ∈ tbl := tbl_c3 (List.mem_of_getElem? (i := 107) (by decide +kernel)) rfl
theorem kw588 : Cond.methodLink RX6 173 yX3_runCosts ∈ tbl := tbl_c3 (List.mem_of_getElem? (i := 108) (by decide +kernel)) rfl
theorem kw589 : Cond.instanceMethod yX3_runCosts ∈ tbl := tbl_c3 (List.mem_of_getElem? (i := 109) (by decide +kernel)) rfl
theorem kw590 : Cond.selects RX3 yX3_runCosts yX3_runCosts ∈ tbl := tbl_c3 (List.mem_of_getElem? (i := 110) (by decide +kernel)) rfl
theorem kw591 : Cond.code yX3_runCosts cX3_runCosts 7 (some .long) ∈ tbl := tbl_c3 (List.mem_of_getElem? (i := 111) rfl) rfl
theorem kw592 : Cond.methodLink RX3 217 yX3_tideCosts ∈ tbl := tbl_c3 (List.mem_of_getElem? (i := 112) (by decide +kernel)) rfl
theorem kw593 : Cond.instanceMethod yX3_tideCosts ∈ tbl := tbl_c3 (List.mem_of_getElem? (i := 113) (by decide +kernel)) rfl
theorem kw594 : Cond.selects RX3 yX3_tideCosts yX3_tideCosts ∈ tbl := tbl_c3 (List.mem_of_getElem? (i := 114) (by decide +kernel)) rfl
theorem kw595 : Cond.code yX3_tideCosts cX3_tideCosts 1 (some .long) ∈ tbl := tbl_c3 (List.mem_of_getElem? (i := 115) rfl) rfl
theorem kw596 : Cond.methodLink RX3 208 yX0_priceOfLacks ∈ tbl := tbl_c3 (List.mem_of_getElem? (i := 116) (by decide +kernel)) rfl
theorem kw597 : Cond.instanceMethod yX0_priceOfLacks ∈ tbl := tbl_c3 (List.mem_of_getElem? (i := 117) (by decide +kernel)) rfl
theorem kw598 : Cond.selects RX0 yX0_priceOfLacks yX0_priceOfLacks ∈ tbl := tbl_c3 (List.mem_of_getElem? (i := 118) (by decide +kernel)) rfl
theorem kw599 : Cond.code yX0_priceOfLacks cX0_priceOfLacks 4 (some .long) ∈ tbl := tbl_c3 (List.mem_of_getElem? (i := 119) rfl) rfl
theorem kw600 : Cond.methodLink RX0 54 Lib.Math.max.name ∈ tbl := tbl_c3 (List.mem_of_getElem? (i := 120) (by decide +kernel)) rfl
theorem kw601 : Cond.constantLong RX3 215 (2) ∈ tbl := tbl_c3 (List.mem_of_getElem? (i := 121) (by decide +kernel)) rfl
theorem kw602 : Cond.methodLink RL 89 yX6_holds ∈ tbl := tbl_c3 (List.mem_of_getElem? (i := 122) (by decide +kernel)) rfl
theorem kw603 : Cond.instanceMethod yX6_holds ∈ tbl := tbl_c3 (List.mem_of_getElem? (i := 123) (by decide +kernel)) rfl
theorem kw604 : Cond.selects RX6 yX6_holds yX6_holds ∈ tbl := tbl_c3 (List.mem_of_getElem? (i := 124) (by decide +kernel)) rfl
theorem kw605 : Cond.code yX6_holds cX6_holds 3 (some .int) ∈ tbl := tbl_c3 (List.mem_of_getElem? (i := 125) rfl) rfl
theorem kw606 : Cond.methodLink RX6 177 yX3_firstLack ∈ tbl := tbl_c3 (List.mem_of_getElem? (i := 126) (by decide +kernel)) rfl
theorem kw607 : Cond.instanceMethod yX3_firstLack ∈ tbl := tbl_c3 (List.mem_of_getElem? (i := 127) (by decide +kernel)) rfl
theorem kw608 : Cond.selects RX3 yX3_firstLack yX3_firstLack ∈ tbl := tbl_c3 (List.mem_of_getElem? (i := 128) (by decide +kernel)) rfl
theorem kw609 : Cond.code yX3_firstLack cX3_firstLack 4 (some .int) ∈ tbl := tbl_c3 (List.mem_of_getElem? (i := 129) rfl) rfl
theorem kw610 : Cond.methodLink RX3 220 yX0_someLack ∈ tbl := tbl_c3 (List.mem_of_getElem? (i := 130) (by decide +kernel)) rfl
theorem kw611 : Cond.instanceMethod yX0_someLack ∈ tbl := tbl_c3 (List.mem_of_getElem? (i := 131) (by decide +kernel)) rfl
theorem kw612 : Cond.selects RX0 yX0_someLack yX0_someLack ∈ tbl := tbl_c3 (List.mem_of_getElem? (i := 132) (by decide +kernel)) rfl
theorem kw613 : Cond.code yX0_someLack cX0_someLack 2 (some .boolean) ∈ tbl := tbl_c3 (List.mem_of_getElem? (i := 133) rfl) rfl
theorem kw614 : Cond.methodLink RL 93 yX6_alone ∈ tbl := tbl_c3 (List.mem_of_getElem? (i := 134) (by decide +kernel)) rfl
theorem kw615 : Cond.instanceMethod yX6_alone ∈ tbl := tbl_c3 (List.mem_of_getElem? (i := 135) (by decide +kernel)) rfl
theorem kw616 : Cond.selects RX6 yX6_alone yX6_alone ∈ tbl := tbl_c3 (List.mem_of_getElem? (i := 136) (by decide +kernel)) rfl
theorem kw617 : Cond.code yX6_alone cX6_alone 3 (some .int) ∈ tbl := tbl_c3 (List.mem_of_getElem? (i := 137) rfl) rfl
theorem kw618 : Cond.methodLink RL 97 yX6_back ∈ tbl := tbl_c3 (List.mem_of_getElem? (i := 138) (by decide +kernel)) rfl
theorem kw619 : Cond.instanceMethod yX6_back ∈ tbl := tbl_c3 (List.mem_of_getElem? (i := 139) (by decide +kernel)) rfl
theorem kw620 : Cond.selects RX6 yX6_back yX6_back ∈ tbl := tbl_c3 (List.mem_of_getElem? (i := 140) (by decide +kernel)) rfl
theorem kw621 : Cond.code yX6_back cX6_back 7 (some .int) ∈ tbl := tbl_c3 (List.mem_of_getElem? (i := 141) rfl) rfl
theorem kw622 : Cond.methodLink RX6 180 yX0_hasAll ∈ tbl := tbl_c3 (List.mem_of_getElem? (i := 142) (by decide +kernel)) rfl
theorem kw623 : Cond.instanceMethod yX0_hasAll ∈ tbl := tbl_c3 (List.mem_of_getElem? (i := 143) (by decide +kernel)) rfl
theorem kw624 : Cond.selects RX0 yX0_hasAll yX0_hasAll ∈ tbl := tbl_c3 (List.mem_of_getElem? (i := 144) (by decide +kernel)) rfl
theorem kw625 : Cond.code yX0_hasAll cX0_hasAll 2 (some .boolean) ∈ tbl := tbl_c3 (List.mem_of_getElem? (i := 145) rfl) rfl
theorem kw626 : Cond.methodLink RX6 183 yX0_tonsInSet ∈ tbl := tbl_c3 (List.mem_of_getElem? (i := 146) (by decide +kernel)) rfl
theorem kw627 : Cond.instanceMethod yX0_tonsInSet ∈ tbl := tbl_c3 (List.mem_of_getElem? (i := 147) (by decide +kernel)) rfl
theorem kw628 : Cond.selects RX0 yX0_tonsInSet yX0_tonsInSet ∈ tbl := tbl_c3 (List.mem_of_getElem? (i := 148) (by decide +kernel)) rfl
theorem kw629 : Cond.code yX0_tonsInSet cX0_tonsInSet 6 (some .int) ∈ tbl := tbl_c3 (List.mem_of_getElem? (i := 149) rfl) rfl
theorem kw631 : Cond.methodLink RX6 186 yX3_drop ∈ tbl := tbl_c3 (List.mem_of_getElem? (i := 151) (by decide +kernel)) rfl
theorem kw632 : Cond.methodLink RL 102 yX6_bestDrop ∈ tbl := tbl_c3 (List.mem_of_getElem? (i := 152) (by decide +kernel)) rfl
theorem kw633 : Cond.instanceMethod yX6_bestDrop ∈ tbl := tbl_c3 (List.mem_of_getElem? (i := 153) (by decide +kernel)) rfl
theorem kw634 : Cond.selects RX6 yX6_bestDrop yX6_bestDrop ∈ tbl := tbl_c3 (List.mem_of_getElem? (i := 154) (by decide +kernel)) rfl
theorem kw635 : Cond.code yX6_bestDrop cX6_bestDrop 9 (some .int) ∈ tbl := tbl_c3 (List.mem_of_getElem? (i := 155) rfl) rfl
theorem kw636 : Cond.methodLink RL 106 yX6_bestPlan ∈ tbl := tbl_c3 (List.mem_of_getElem? (i := 156) (by decide +kernel)) rfl
theorem kw637 : Cond.instanceMethod yX6_bestPlan ∈ tbl := tbl_c3 (List.mem_of_getElem? (i := 157) (by decide +kernel)) rfl
theorem kw638 : Cond.selects RX6 yX6_bestPlan yX6_bestPlan ∈ tbl := tbl_c3 (List.mem_of_getElem? (i := 158) (by decide +kernel)) rfl
theorem kw639 : Cond.code yX6_bestPlan cX6_bestPlan 9 (some .int) ∈ tbl := tbl_c3 (List.mem_of_getElem? (i := 159) rfl) rfl
theorem kw640 : Cond.methodLink RL 110 yX6_leastCap ∈ tbl := tbl_c3 (List.mem_of_getElem? (i := 160) (by decide +kernel)) rfl
theorem kw641 : Cond.instanceMethod yX6_leastCap ∈ tbl := tbl_c3 (List.mem_of_getElem? (i := 161) (by decide +kernel)) rfl
theorem kw642 : Cond.selects RX6 yX6_leastCap yX6_leastCap ∈ tbl := tbl_c3 (List.mem_of_getElem? (i := 162) (by decide +kernel)) rfl
theorem kw643 : Cond.code yX6_leastCap cX6_leastCap 4 (some .int) ∈ tbl := tbl_c3 (List.mem_of_getElem? (i := 163) rfl) rfl
theorem kw644 : Cond.methodLink RL 114 yX6_wall ∈ tbl := tbl_c3 (List.mem_of_getElem? (i := 164) (by decide +kernel)) rfl
theorem kw645 : Cond.instanceMethod yX6_wall ∈ tbl := tbl_c3 (List.mem_of_getElem? (i := 165) (by decide +kernel)) rfl
theorem kw646 : Cond.selects RX6 yX6_wall yX6_wall ∈ tbl := tbl_c3 (List.mem_of_getElem? (i := 166) (by decide +kernel)) rfl
theorem kw647 : Cond.code yX6_wall cX6_wall 9 (some .int) ∈ tbl := tbl_c3 (List.mem_of_getElem? (i := 167) rfl) rfl
theorem kw648 : Cond.methodLink RL 118 yX6_share ∈ tbl := tbl_c3 (List.mem_of_getElem? (i := 168) (by decide +kernel)) rfl
theorem kw649 : Cond.instanceMethod yX6_share ∈ tbl := tbl_c3 (List.mem_of_getElem? (i := 169) (by decide +kernel)) rfl
theorem kw650 : Cond.selects RX6 yX6_share yX6_share ∈ tbl := tbl_c3 (List.mem_of_getElem? (i := 170) (by decide +kernel)) rfl
theorem kw651 : Cond.code yX6_share cX6_share 4 (some .int) ∈ tbl := tbl_c3 (List.mem_of_getElem? (i := 171) rfl) rfl
theorem kw652 : Cond.methodLink RX6 200 yX4_has ∈ tbl := tbl_c3 (List.mem_of_getElem? (i := 172) (by decide +kernel)) rfl
theorem kw653 : Cond.instanceMethod yX4_has ∈ tbl := tbl_c3 (List.mem_of_getElem? (i := 173) (by decide +kernel)) rfl
theorem kw654 : Cond.selects RX4 yX4_has yX4_has ∈ tbl := tbl_c3 (List.mem_of_getElem? (i := 174) (by decide +kernel)) rfl
theorem kw655 : Cond.code yX4_has cX4_has 2 (some .boolean) ∈ tbl := tbl_c3 (List.mem_of_getElem? (i := 175) rfl) rfl
theorem kw656 : Cond.methodLink RX6 203 yX0_settledInAll ∈ tbl := tbl_c3 (List.mem_of_getElem? (i := 176) (by decide +kernel)) rfl
theorem kw657 : Cond.instanceMethod yX0_settledInAll ∈ tbl := tbl_c3 (List.mem_of_getElem? (i := 177) (by decide +kernel)) rfl
theorem kw658 : Cond.selects RX0 yX0_settledInAll yX0_settledInAll ∈ tbl := tbl_c3 (List.mem_of_getElem? (i := 178) (by decide +kernel)) rfl
theorem kw659 : Cond.code yX0_settledInAll cX0_settledInAll 3 (some .int) ∈ tbl := tbl_c3 (List.mem_of_getElem? (i := 179) rfl) rfl
theorem kw660 : Cond.methodLink RL 122 yX6_row ∈ tbl := tbl_c3 (List.mem_of_getElem? (i := 180) (by decide +kernel)) rfl
theorem kw661 : Cond.instanceMethod yX6_row ∈ tbl := tbl_c3 (List.mem_of_getElem? (i := 181) (by decide +kernel)) rfl
theorem kw662 : Cond.selects RX6 yX6_row yX6_row ∈ tbl := tbl_c3 (List.mem_of_getElem? (i := 182) (by decide +kernel)) rfl
theorem kw663 : Cond.code yX6_row cX6_row 2 (some .int) ∈ tbl := tbl_c3 (List.mem_of_getElem? (i := 183) rfl) rfl
theorem kw664 : Cond.methodLink RL 126 yX6_judge ∈ tbl := tbl_c3 (List.mem_of_getElem? (i := 184) (by decide +kernel)) rfl
theorem kw665 : Cond.instanceMethod yX6_judge ∈ tbl := tbl_c3 (List.mem_of_getElem? (i := 185) (by decide +kernel)) rfl
theorem kw666 : Cond.selects RX6 yX6_judge yX6_judge ∈ tbl := tbl_c3 (List.mem_of_getElem? (i := 186) (by decide +kernel)) rfl
theorem kw667 : Cond.code yX6_judge cX6_judge 6 (some .int) ∈ tbl := tbl_c3 (List.mem_of_getElem? (i := 187) rfl) rfl
theorem kw668 : Cond.methodLink RX6 209 yX6_rowIsOfCells ∈ tbl := tbl_c3 (List.mem_of_getElem? (i := 188) (by decide +kernel)) rfl
theorem kw670 : Cond.instanceMethod yX6_rowIsOfCells ∈ tbl := tbl_c3 (List.mem_of_getElem? (i := 190) (by decide +kernel)) rfl
theorem kw671 : Cond.code yX6_rowIsOfCells cX6_rowIsOfCells 2 (some .boolean) ∈ tbl := tbl_c3 (List.mem_of_getElem? (i := 191) rfl) rfl
theorem kw672 : Cond.methodLink RX6 213 yX3_goBy ∈ tbl := tbl_c3 (List.mem_of_getElem? (i := 192) (by decide +kernel)) rfl
theorem kw673 : Cond.methodLink RX6 216 yX3_tideCosts ∈ tbl := tbl_c3 (List.mem_of_getElem? (i := 193) (by decide +kernel)) rfl
theorem kw674 : Cond.methodLink RX6 223 yX0_feetLacked ∈ tbl := tbl_c3 (List.mem_of_getElem? (i := 194) (by decide +kernel)) rfl
theorem kw675 : Cond.instanceMethod yX0_feetLacked ∈ tbl := tbl_c3 (List.mem_of_getElem? (i := 195) (by decide +kernel)) rfl
theorem kw676 : Cond.selects RX0 yX0_feetLacked yX0_feetLacked ∈ tbl := tbl_c3 (List.mem_of_getElem? (i := 196) (by decide +kernel)) rfl
theorem kw677 : Cond.code yX0_feetLacked cX0_feetLacked 3 (some .int) ∈ tbl := tbl_c3 (List.mem_of_getElem? (i := 197) rfl) rfl
theorem kw678 : Cond.methodLink RL 130 yX6_image ∈ tbl := tbl_c3 (List.mem_of_getElem? (i := 198) (by decide +kernel)) rfl
theorem kw679 : Cond.instanceMethod yX6_image ∈ tbl := tbl_c3 (List.mem_of_getElem? (i := 199) (by decide +kernel)) rfl
theorem kw680 : Cond.selects RX6 yX6_image yX6_image ∈ tbl := tbl_c3 (List.mem_of_getElem? (i := 200) (by decide +kernel)) rfl
theorem kw681 : Cond.code yX6_image cX6_image 1 (some .int) ∈ tbl := tbl_c3 (List.mem_of_getElem? (i := 201) rfl) rfl
theorem kw682 : Cond.methodLink RL 134 yX6_restore ∈ tbl := tbl_c3 (List.mem_of_getElem? (i := 202) (by decide +kernel)) rfl
theorem kw683 : Cond.instanceMethod yX6_restore ∈ tbl := tbl_c3 (List.mem_of_getElem? (i := 203) (by decide +kernel)) rfl
theorem kw684 : Cond.selects RX6 yX6_restore yX6_restore ∈ tbl := tbl_c3 (List.mem_of_getElem? (i := 204) (by decide +kernel)) rfl
theorem kw685 : Cond.code yX6_restore cX6_restore 1 (some .int) ∈ tbl := tbl_c3 (List.mem_of_getElem? (i := 205) rfl) rfl
theorem kw686 : Cond.methodLink RL 138 yX6_count ∈ tbl := tbl_c3 (List.mem_of_getElem? (i := 206) (by decide +kernel)) rfl
theorem kw687 : Cond.instanceMethod yX6_count ∈ tbl := tbl_c3 (List.mem_of_getElem? (i := 207) (by decide +kernel)) rfl
theorem kw688 : Cond.selects RX6 yX6_count yX6_count ∈ tbl := tbl_c3 (List.mem_of_getElem? (i := 208) (by decide +kernel)) rfl
theorem kw689 : Cond.code yX6_count cX6_count 2 (some .int) ∈ tbl := tbl_c3 (List.mem_of_getElem? (i := 209) rfl) rfl
theorem kw690 : Cond.methodLink RX6 227 yX0_tonsInAll ∈ tbl := tbl_c3 (List.mem_of_getElem? (i := 210) (by decide +kernel)) rfl
theorem kw691 : Cond.instanceMethod yX0_tonsInAll ∈ tbl := tbl_c3 (List.mem_of_getElem? (i := 211) (by decide +kernel)) rfl
theorem kw692 : Cond.selects RX0 yX0_tonsInAll yX0_tonsInAll ∈ tbl := tbl_c3 (List.mem_of_getElem? (i := 212) (by decide +kernel)) rfl
theorem kw693 : Cond.code yX0_tonsInAll cX0_tonsInAll 2 (some .int) ∈ tbl := tbl_c3 (List.mem_of_getElem? (i := 213) rfl) rfl
theorem kw694 : Cond.methodLink RX0 66 yX0_tonsInSet ∈ tbl := tbl_c3 (List.mem_of_getElem? (i := 214) (by decide +kernel)) rfl
theorem kw695 : Cond.classLink RL 10 RX7 ∈ tbl := tbl_c3 (List.mem_of_getElem? (i := 215) (by decide +kernel)) rfl
theorem kw696 : Cond.instantiable RX7 55 ∈ tbl := tbl_c3 (List.mem_of_getElem? (i := 216) (by decide +kernel)) rfl
theorem kw697 : Cond.methodLink RL 12 yX7_init ∈ tbl := tbl_c3 (List.mem_of_getElem? (i := 217) (by decide +kernel)) rfl
theorem kw698 : Cond.instanceMethod yX7_init ∈ tbl := tbl_c3 (List.mem_of_getElem? (i := 218) (by decide +kernel)) rfl
theorem kw699 : Cond.code yX7_init cX7_init 1 none ∈ tbl := tbl_c3 (List.mem_of_getElem? (i := 219) rfl) rfl
theorem kw700 : Cond.methodLink RX7 1 objectInit ∈ tbl := tbl_c3 (List.mem_of_getElem? (i := 220) (by decide +kernel)) rfl
theorem kw701 : Cond.fieldLink RX7 111 "HarbourMudModel" "cells" "I" ∈ tbl := tbl_c3 (List.mem_of_getElem? (i := 221) (by decide +kernel)) rfl
theorem kw702 : Cond.fieldLink RX7 7 "HarbourMudModel" "bases" "[I" ∈ tbl := tbl_c3 (List.mem_of_getElem? (i := 222) (by decide +kernel)) rfl
theorem kw703 : Cond.fieldLink RX7 13 "HarbourMudModel" "wanted" "[I" ∈ tbl := tbl_c3 (List.mem_of_getElem? (i := 223) (by decide +kernel)) rfl
theorem kw704 : Cond.fieldLink RX7 16 "HarbourMudModel" "settles" "[I" ∈ tbl := tbl_c3 (List.mem_of_getElem? (i := 224) (by decide +kernel)) rfl
theorem kw705 : Cond.fieldLink RX7 19 "HarbourMudModel" "stirs" "[I" ∈ tbl := tbl_c3 (List.mem_of_getElem? (i := 225) (by decide +kernel)) rfl
theorem kw706 : Cond.fieldLink RX7 22 "HarbourMudModel" "prices" "[I" ∈ tbl := tbl_c3 (List.mem_of_getElem? (i := 226) (by decide +kernel)) rfl
theorem kw707 : Cond.fieldLink RX7 25 "HarbourMudModel" "loose" "[I" ∈ tbl := tbl_c3 (List.mem_of_getElem? (i := 227) (by decide +kernel)) rfl
theorem kw708 : Cond.fieldLink RX7 28 "HarbourMudModel" "settled" "[I" ∈ tbl := tbl_c3 (List.mem_of_getElem? (i := 228) (by decide +kernel)) rfl
theorem kw709 : Cond.fieldLink RX7 132 "HarbourMudModel" "ways" "I" ∈ tbl := tbl_c3 (List.mem_of_getElem? (i := 229) (by decide +kernel)) rfl
theorem kw710 : Cond.fieldLink RX7 31 "HarbourMudModel" "wayFrom" "[I" ∈ tbl := tbl_c3 (List.mem_of_getElem? (i := 230) (by decide +kernel)) rfl
theorem kw711 : Cond.fieldLink RX7 34 "HarbourMudModel" "wayTo" "[I" ∈ tbl := tbl_c3 (List.mem_of_getElem? (i := 231) (by decide +kernel)) rfl
theorem kw712 : Cond.fieldLink RX7 37 "HarbourMudModel" "wayKind" "[I" ∈ tbl := tbl_c3 (List.mem_of_getElem? (i := 232) (by decide +kernel)) rfl
theorem kw713 : Cond.fieldLink RX7 40 "HarbourMudModel" "wayStuff" "[I" ∈ tbl := tbl_c3 (List.mem_of_getElem? (i := 233) (by decide +kernel)) rfl
theorem kw714 : Cond.fieldLink RX7 43 "HarbourMudModel" "wayPart" "[I" ∈ tbl := tbl_c3 (List.mem_of_getElem? (i := 234) (by decide +kernel)) rfl
theorem kw715 : Cond.fieldLink RX7 46 "HarbourMudModel" "isShut" "[Z" ∈ tbl := tbl_c3 (List.mem_of_getElem? (i := 235) (by decide +kernel)) rfl
theorem kw716 : Cond.fieldLink RX7 147 "HarbourMudModel" "rivers" "I" ∈ tbl := tbl_c3 (List.mem_of_getElem? (i := 236) (by decide +kernel)) rfl
theorem kw717 : Cond.fieldLink RX7 50 "HarbourMudModel" "riverCell" "[I" ∈ tbl := tbl_c3 (List.mem_of_getElem? (i := 237) (by decide +kernel)) rfl
theorem kw718 : Cond.fieldLink RX7 53 "HarbourMudModel" "riverStuff" "[I" ∈ tbl := tbl_c3 (List.mem_of_getElem? (i := 238) (by decide +kernel)) rfl
theorem kw719 : Cond.fieldLink RX7 56 "HarbourMudModel" "riverTons" "[I" ∈ tbl := tbl_c3 (List.mem_of_getElem? (i := 239) (by decide +kernel)) rfl
theorem kw720 : Cond.fieldLink RX7 59 "HarbourMudModel" "moon" "[I" ∈ tbl := tbl_c4 (List.mem_of_getElem? (i := 0) (by decide +kernel)) rfl
theorem kw721 : Cond.fieldLink RX7 62 "HarbourMudModel" "moonMany" "I" ∈ tbl := tbl_c4 (List.mem_of_getElem? (i := 1) (by decide +kernel)) rfl
theorem kw722 : Cond.fieldLink RX7 186 "HarbourMudModel" "tide" "I" ∈ tbl := tbl_c4 (List.mem_of_getElem? (i := 2) (by decide +kernel)) rfl
theorem kw723 : Cond.fieldLink RX7 194 "HarbourMudModel" "gone" "I" ∈ tbl := tbl_c4 (List.mem_of_getElem? (i := 3) (by decide +kernel)) rfl
theorem kw724 : Cond.fieldLink RX7 203 "HarbourMudModel" "took" "I" ∈ tbl := tbl_c4 (List.mem_of_getElem? (i := 4) (by decide +kernel)) rfl
theorem kw725 : Cond.fieldLink RX7 170 "HarbourMudModel" "cap" "I" ∈ tbl := tbl_c4 (List.mem_of_getElem? (i := 5) (by decide +kernel)) rfl
theorem kw726 : Cond.fieldLink RX7 66 "HarbourMudModel" "drop" "I" ∈ tbl := tbl_c4 (List.mem_of_getElem? (i := 6) (by decide +kernel)) rfl
theorem kw727 : Cond.fieldLink RX7 173 "HarbourMudModel" "plan" "I" ∈ tbl := tbl_c4 (List.mem_of_getElem? (i := 7) (by decide +kernel)) rfl
theorem kw728 : Cond.fieldLink RX7 176 "HarbourMudModel" "told" "I" ∈ tbl := tbl_c4 (List.mem_of_getElem? (i := 8) (by decide +kernel)) rfl
theorem kw729 : Cond.fieldLink RX7 69 "HarbourMudModel" "fee" "I" ∈ tbl := tbl_c4 (List.mem_of_getElem? (i := 9) (by decide +kernel)) rfl
theorem kw730 : Cond.fieldLink RX7 72 "HarbourMudModel" "text" "[I" ∈ tbl := tbl_c4 (List.mem_of_getElem? (i := 10) (by decide +kernel)) rfl
theorem kw731 : Cond.fieldLink RX7 108 "HarbourMudModel" "textMany" "I" ∈ tbl := tbl_c4 (List.mem_of_getElem? (i := 11) (by decide +kernel)) rfl
theorem kw732 : Cond.fieldLink RX7 75 "HarbourMudModel" "row" "[I" ∈ tbl := tbl_c4 (List.mem_of_getElem? (i := 12) (by decide +kernel)) rfl
theorem kw733 : Cond.fieldLink RX7 261 "HarbourMudModel" "rowMany" "I" ∈ tbl := tbl_c4 (List.mem_of_getElem? (i := 13) (by decide +kernel)) rfl
theorem kw734 : Cond.fieldLink RX7 78 "HarbourMudModel" "refused" "[I" ∈ tbl := tbl_c4 (List.mem_of_getElem? (i := 14) (by decide +kernel)) rfl
theorem kw735 : Cond.fieldLink RX7 81 "HarbourMudModel" "dryRiver" "I" ∈ tbl := tbl_c4 (List.mem_of_getElem? (i := 15) (by decide +kernel)) rfl
theorem kw736 : Cond.fieldLink RX7 84 "HarbourMudModel" "were" "[I" ∈ tbl := tbl_c4 (List.mem_of_getElem? (i := 16) (by decide +kernel)) rfl
theorem kw737 : Cond.fieldLink RX7 197 "HarbourMudModel" "tonsTaken" "I" ∈ tbl := tbl_c4 (List.mem_of_getElem? (i := 17) (by decide +kernel)) rfl
theorem kw738 : Cond.fieldLink RX7 200 "HarbourMudModel" "tonsToSea" "I" ∈ tbl := tbl_c4 (List.mem_of_getElem? (i := 18) (by decide +kernel)) rfl
theorem kw739 : Cond.fieldLink RX7 87 "HarbourMudModel" "savedLoose" "[I" ∈ tbl := tbl_c4 (List.mem_of_getElem? (i := 19) (by decide +kernel)) rfl
theorem kw740 : Cond.fieldLink RX7 90 "HarbourMudModel" "savedSettled" "[I" ∈ tbl := tbl_c4 (List.mem_of_getElem? (i := 20) (by decide +kernel)) rfl
theorem kw741 : Cond.fieldLink RX7 226 "HarbourMudModel" "savedTide" "I" ∈ tbl := tbl_c4 (List.mem_of_getElem? (i := 21) (by decide +kernel)) rfl
theorem kw742 : Cond.fieldLink RX7 229 "HarbourMudModel" "savedGone" "I" ∈ tbl := tbl_c4 (List.mem_of_getElem? (i := 22) (by decide +kernel)) rfl
theorem kw743 : Cond.fieldLink RX7 232 "HarbourMudModel" "savedTook" "I" ∈ tbl := tbl_c4 (List.mem_of_getElem? (i := 23) (by decide +kernel)) rfl
theorem kw744 : Cond.fieldLink RX7 268 "HarbourMudModel" "at" "I" ∈ tbl := tbl_c4 (List.mem_of_getElem? (i := 24) (by decide +kernel)) rfl
theorem kw745 : Cond.fieldLink RX7 271 "HarbourMudModel" "end" "I" ∈ tbl := tbl_c4 (List.mem_of_getElem? (i := 25) (by decide +kernel)) rfl
theorem kw746 : Cond.fieldLink RX7 274 "HarbourMudModel" "isBad" "Z" ∈ tbl := tbl_c4 (List.mem_of_getElem? (i := 26) (by decide +kernel)) rfl
theorem kw747 : Cond.fieldLink RX7 292 "HarbourMudModel" "statements" "I" ∈ tbl := tbl_c4 (List.mem_of_getElem? (i := 27) (by decide +kernel)) rfl
theorem kw748 : Cond.fieldLink RX7 93 "HarbourMudModel" "placeOf" "[I" ∈ tbl := tbl_c4 (List.mem_of_getElem? (i := 28) (by decide +kernel)) rfl
theorem kw749 : Cond.fieldLink RX7 96 "HarbourMudModel" "letterOf" "[I" ∈ tbl := tbl_c4 (List.mem_of_getElem? (i := 29) (by decide +kernel)) rfl
theorem kw750 : Cond.fieldLink RX7 99 "HarbourMudModel" "numbers" "[I" ∈ tbl := tbl_c4 (List.mem_of_getElem? (i := 30) (by decide +kernel)) rfl
theorem kw751 : Cond.fieldLink RX7 102 "HarbourMudModel" "savedMoon" "[I" ∈ tbl := tbl_c4 (List.mem_of_getElem? (i := 31) (by decide +kernel)) rfl
theorem kw752 : Cond.fieldLink RX7 320 "HarbourMudModel" "hasImage" "Z" ∈ tbl := tbl_c4 (List.mem_of_getElem? (i := 32) (by decide +kernel)) rfl
theorem kw753 : Cond.fieldLink RX7 105 "HarbourMudModel" "imaged" "[I" ∈ tbl := tbl_c4 (List.mem_of_getElem? (i := 33) (by decide +kernel)) rfl
theorem kw754 : Cond.fieldLink RX7 314 "HarbourMudModel" "imageAt" "I" ∈ tbl := tbl_c4 (List.mem_of_getElem? (i := 34) (by decide +kernel)) rfl
theorem kw755 : Cond.fieldLink RX7 311 "HarbourMudModel" "isTaking" "Z" ∈ tbl := tbl_c4 (List.mem_of_getElem? (i := 35) (by decide +kernel)) rfl
theorem kw867 : Cond.arrayClass .boolean ∈ tbl := tbl_c4 (List.mem_of_getElem? (i := 147) (by decide +kernel)) rfl
theorem kw868 : Cond.methodLink RL 29 yX7_cell ∈ tbl := tbl_c4 (List.mem_of_getElem? (i := 148) (by decide +kernel)) rfl
theorem kw869 : Cond.instanceMethod yX7_cell ∈ tbl := tbl_c4 (List.mem_of_getElem? (i := 149) (by decide +kernel)) rfl
theorem kw870 : Cond.selects RX7 yX7_cell yX7_cell ∈ tbl := tbl_c4 (List.mem_of_getElem? (i := 150) (by decide +kernel)) rfl
theorem kw871 : Cond.code yX7_cell cX7_cell 3 (some .int) ∈ tbl := tbl_c4 (List.mem_of_getElem? (i := 151) rfl) rfl
theorem kw872 : Cond.methodLink RX7 118 yX7_refuse ∈ tbl := tbl_c4 (List.mem_of_getElem? (i := 152) (by decide +kernel)) rfl
theorem kw874 : Cond.instanceMethod yX7_refuse ∈ tbl := tbl_c4 (List.mem_of_getElem? (i := 154) (by decide +kernel)) rfl
theorem kw875 : Cond.code yX7_refuse cX7_refuse 2 (some .int) ∈ tbl := tbl_c4 (List.mem_of_getElem? (i := 155) rfl) rfl
theorem kw876 : Cond.methodLink RX7 122 yX7_addCell ∈ tbl := tbl_c4 (List.mem_of_getElem? (i := 156) (by decide +kernel)) rfl
theorem kw878 : Cond.instanceMethod yX7_addCell ∈ tbl := tbl_c4 (List.mem_of_getElem? (i := 158) (by decide +kernel)) rfl
theorem kw879 : Cond.code yX7_addCell cX7_addCell 4 none ∈ tbl := tbl_c4 (List.mem_of_getElem? (i := 159) rfl) rfl
theorem kw880 : Cond.methodLink RL 34 yX7_set ∈ tbl := tbl_c4 (List.mem_of_getElem? (i := 160) (by decide +kernel)) rfl
theorem kw881 : Cond.instanceMethod yX7_set ∈ tbl := tbl_c4 (List.mem_of_getElem? (i := 161) (by decide +kernel)) rfl
theorem kw882 : Cond.selects RX7 yX7_set yX7_set ∈ tbl := tbl_c4 (List.mem_of_getElem? (i := 162) (by decide +kernel)) rfl
theorem kw883 : Cond.code yX7_set cX7_set 5 (some .int) ∈ tbl := tbl_c4 (List.mem_of_getElem? (i := 163) rfl) rfl
theorem kw884 : Cond.methodLink RX7 126 yX7_isCell ∈ tbl := tbl_c4 (List.mem_of_getElem? (i := 164) (by decide +kernel)) rfl
theorem kw886 : Cond.instanceMethod yX7_isCell ∈ tbl := tbl_c4 (List.mem_of_getElem? (i := 166) (by decide +kernel)) rfl
theorem kw887 : Cond.code yX7_isCell cX7_isCell 2 (some .boolean) ∈ tbl := tbl_c4 (List.mem_of_getElem? (i := 167) rfl) rfl
theorem kw888 : Cond.methodLink RX7 114 yX7_in ∈ tbl := tbl_c4 (List.mem_of_getElem? (i := 168) (by decide +kernel)) rfl
theorem kw889 : Cond.static yX7_in ∈ tbl := tbl_c4 (List.mem_of_getElem? (i := 169) (by decide +kernel)) rfl
theorem kw890 : Cond.code yX7_in cX7_in 6 (some .boolean) ∈ tbl := tbl_c4 (List.mem_of_getElem? (i := 170) rfl) rfl
theorem kw891 : Cond.constantLong RX7 130 (3) ∈ tbl := tbl_c4 (List.mem_of_getElem? (i := 171) (by decide +kernel)) rfl
theorem kw892 : Cond.methodLink RL 39 yX7_way ∈ tbl := tbl_c4 (List.mem_of_getElem? (i := 172) (by decide +kernel)) rfl
theorem kw893 : Cond.instanceMethod yX7_way ∈ tbl := tbl_c4 (List.mem_of_getElem? (i := 173) (by decide +kernel)) rfl
theorem kw894 : Cond.selects RX7 yX7_way yX7_way ∈ tbl := tbl_c4 (List.mem_of_getElem? (i := 174) (by decide +kernel)) rfl
theorem kw895 : Cond.code yX7_way cX7_way 5 (some .int) ∈ tbl := tbl_c4 (List.mem_of_getElem? (i := 175) rfl) rfl
theorem kw896 : Cond.methodLink RX7 135 yX7_areEnds ∈ tbl := tbl_c4 (List.mem_of_getElem? (i := 176) (by decide +kernel)) rfl
theorem kw898 : Cond.instanceMethod yX7_areEnds ∈ tbl := tbl_c4 (List.mem_of_getElem? (i := 178) (by decide +kernel)) rfl
theorem kw899 : Cond.code yX7_areEnds cX7_areEnds 3 (some .boolean) ∈ tbl := tbl_c4 (List.mem_of_getElem? (i := 179) rfl) rfl
theorem kw900 : Cond.methodLink RX7 139 yX7_partsFrom ∈ tbl := tbl_c4 (List.mem_of_getElem? (i := 180) (by decide +kernel)) rfl
theorem kw902 : Cond.instanceMethod yX7_partsFrom ∈ tbl := tbl_c4 (List.mem_of_getElem? (i := 182) (by decide +kernel)) rfl
theorem kw903 : Cond.code yX7_partsFrom cX7_partsFrom 6 (some .int) ∈ tbl := tbl_c4 (List.mem_of_getElem? (i := 183) rfl) rfl
theorem kw904 : Cond.methodLink RX7 143 yX7_addWay ∈ tbl := tbl_c4 (List.mem_of_getElem? (i := 184) (by decide +kernel)) rfl
theorem kw906 : Cond.instanceMethod yX7_addWay ∈ tbl := tbl_c4 (List.mem_of_getElem? (i := 186) (by decide +kernel)) rfl
theorem kw907 : Cond.code yX7_addWay cX7_addWay 6 none ∈ tbl := tbl_c4 (List.mem_of_getElem? (i := 187) rfl) rfl
theorem kw908 : Cond.methodLink RL 44 yX7_shut ∈ tbl := tbl_c4 (List.mem_of_getElem? (i := 188) (by decide +kernel)) rfl
theorem kw909 : Cond.instanceMethod yX7_shut ∈ tbl := tbl_c4 (List.mem_of_getElem? (i := 189) (by decide +kernel)) rfl
theorem kw910 : Cond.selects RX7 yX7_shut yX7_shut ∈ tbl := tbl_c4 (List.mem_of_getElem? (i := 190) (by decide +kernel)) rfl
theorem kw911 : Cond.code yX7_shut cX7_shut 4 (some .int) ∈ tbl := tbl_c4 (List.mem_of_getElem? (i := 191) rfl) rfl
theorem kw912 : Cond.methodLink RL 48 yX7_river ∈ tbl := tbl_c4 (List.mem_of_getElem? (i := 192) (by decide +kernel)) rfl
theorem kw913 : Cond.instanceMethod yX7_river ∈ tbl := tbl_c4 (List.mem_of_getElem? (i := 193) (by decide +kernel)) rfl
theorem kw914 : Cond.selects RX7 yX7_river yX7_river ∈ tbl := tbl_c4 (List.mem_of_getElem? (i := 194) (by decide +kernel)) rfl
theorem kw915 : Cond.code yX7_river cX7_river 4 (some .int) ∈ tbl := tbl_c4 (List.mem_of_getElem? (i := 195) rfl) rfl
theorem kw916 : Cond.methodLink RX7 150 yX7_isStuff ∈ tbl := tbl_c4 (List.mem_of_getElem? (i := 196) (by decide +kernel)) rfl
theorem kw917 : Cond.static yX7_isStuff ∈ tbl := tbl_c4 (List.mem_of_getElem? (i := 197) (by decide +kernel)) rfl
theorem kw918 : Cond.code yX7_isStuff cX7_isStuff 1 (some .boolean) ∈ tbl := tbl_c4 (List.mem_of_getElem? (i := 198) rfl) rfl
theorem kw919 : Cond.methodLink RX7 153 yX7_addRiver ∈ tbl := tbl_c4 (List.mem_of_getElem? (i := 199) (by decide +kernel)) rfl
theorem kw921 : Cond.instanceMethod yX7_addRiver ∈ tbl := tbl_c4 (List.mem_of_getElem? (i := 201) (by decide +kernel)) rfl
theorem kw922 : Cond.code yX7_addRiver cX7_addRiver 4 none ∈ tbl := tbl_c4 (List.mem_of_getElem? (i := 202) rfl) rfl
theorem kw923 : Cond.methodLink RL 52 yX7_moon ∈ tbl := tbl_c4 (List.mem_of_getElem? (i := 203) (by decide +kernel)) rfl
theorem kw924 : Cond.instanceMethod yX7_moon ∈ tbl := tbl_c4 (List.mem_of_getElem? (i := 204) (by decide +kernel)) rfl
theorem kw925 : Cond.selects RX7 yX7_moon yX7_moon ∈ tbl := tbl_c4 (List.mem_of_getElem? (i := 205) (by decide +kernel)) rfl
theorem kw926 : Cond.code yX7_moon cX7_moon 5 (some .int) ∈ tbl := tbl_c4 (List.mem_of_getElem? (i := 206) rfl) rfl
theorem kw927 : Cond.methodLink RL 57 yX7_put ∈ tbl := tbl_c4 (List.mem_of_getElem? (i := 207) (by decide +kernel)) rfl
theorem kw928 : Cond.instanceMethod yX7_put ∈ tbl := tbl_c4 (List.mem_of_getElem? (i := 208) (by decide +kernel)) rfl
theorem kw929 : Cond.selects RX7 yX7_put yX7_put ∈ tbl := tbl_c4 (List.mem_of_getElem? (i := 209) (by decide +kernel)) rfl
theorem kw930 : Cond.code yX7_put cX7_put 7 (some .int) ∈ tbl := tbl_c4 (List.mem_of_getElem? (i := 210) rfl) rfl
theorem kw931 : Cond.constant RX7 157 (1000000) ∈ tbl := tbl_c4 (List.mem_of_getElem? (i := 211) (by decide +kernel)) rfl
theorem kw932 : Cond.methodLink RL 62 yX7_tons ∈ tbl := tbl_c4 (List.mem_of_getElem? (i := 212) (by decide +kernel)) rfl
theorem kw933 : Cond.instanceMethod yX7_tons ∈ tbl := tbl_c4 (List.mem_of_getElem? (i := 213) (by decide +kernel)) rfl
theorem kw934 : Cond.selects RX7 yX7_tons yX7_tons ∈ tbl := tbl_c4 (List.mem_of_getElem? (i := 214) (by decide +kernel)) rfl
theorem kw935 : Cond.code yX7_tons cX7_tons 4 (some .int) ∈ tbl := tbl_c4 (List.mem_of_getElem? (i := 215) rfl) rfl
theorem kw936 : Cond.methodLink RL 67 yX7_depth ∈ tbl := tbl_c4 (List.mem_of_getElem? (i := 216) (by decide +kernel)) rfl
theorem kw937 : Cond.instanceMethod yX7_depth ∈ tbl := tbl_c4 (List.mem_of_getElem? (i := 217) (by decide +kernel)) rfl
theorem kw938 : Cond.selects RX7 yX7_depth yX7_depth ∈ tbl := tbl_c4 (List.mem_of_getElem? (i := 218) (by decide +kernel)) rfl
theorem kw939 : Cond.code yX7_depth cX7_depth 2 (some .int) ∈ tbl := tbl_c4 (List.mem_of_getElem? (i := 219) rfl) rfl
theorem kw940 : Cond.methodLink RX7 161 yX7_depthOf ∈ tbl := tbl_c4 (List.mem_of_getElem? (i := 220) (by decide +kernel)) rfl
theorem kw942 : Cond.instanceMethod yX7_depthOf ∈ tbl := tbl_c4 (List.mem_of_getElem? (i := 222) (by decide +kernel)) rfl
theorem kw943 : Cond.code yX7_depthOf cX7_depthOf 3 (some .int) ∈ tbl := tbl_c4 (List.mem_of_getElem? (i := 223) rfl) rfl
theorem kw944 : Cond.methodLink RX7 158 yX7_settledIn ∈ tbl := tbl_c4 (List.mem_of_getElem? (i := 224) (by decide +kernel)) rfl
theorem kw946 : Cond.instanceMethod yX7_settledIn ∈ tbl := tbl_c4 (List.mem_of_getElem? (i := 226) (by decide +kernel)) rfl
theorem kw947 : Cond.code yX7_settledIn cX7_settledIn 2 (some .int) ∈ tbl := tbl_c4 (List.mem_of_getElem? (i := 227) rfl) rfl
theorem kw948 : Cond.methodLink RL 71 yX7_lacks ∈ tbl := tbl_c4 (List.mem_of_getElem? (i := 228) (by decide +kernel)) rfl
theorem kw949 : Cond.instanceMethod yX7_lacks ∈ tbl := tbl_c4 (List.mem_of_getElem? (i := 229) (by decide +kernel)) rfl
theorem kw950 : Cond.selects RX7 yX7_lacks yX7_lacks ∈ tbl := tbl_c4 (List.mem_of_getElem? (i := 230) (by decide +kernel)) rfl
theorem kw951 : Cond.code yX7_lacks cX7_lacks 2 (some .int) ∈ tbl := tbl_c4 (List.mem_of_getElem? (i := 231) rfl) rfl
theorem kw952 : Cond.methodLink RX7 164 yX7_lacksOf ∈ tbl := tbl_c4 (List.mem_of_getElem? (i := 232) (by decide +kernel)) rfl
theorem kw954 : Cond.instanceMethod yX7_lacksOf ∈ tbl := tbl_c4 (List.mem_of_getElem? (i := 234) (by decide +kernel)) rfl
theorem kw955 : Cond.code yX7_lacksOf cX7_lacksOf 2 (some .int) ∈ tbl := tbl_c4 (List.mem_of_getElem? (i := 235) rfl) rfl
theorem kw956 : Cond.constant RX7 167 (-1000000000) ∈ tbl := tbl_c4 (List.mem_of_getElem? (i := 236) (by decide +kernel)) rfl
theorem kw957 : Cond.methodLink RL 75 yX7_dredger ∈ tbl := tbl_c4 (List.mem_of_getElem? (i := 237) (by decide +kernel)) rfl
theorem kw958 : Cond.instanceMethod yX7_dredger ∈ tbl := tbl_c4 (List.mem_of_getElem? (i := 238) (by decide +kernel)) rfl
theorem kw959 : Cond.selects RX7 yX7_dredger yX7_dredger ∈ tbl := tbl_c4 (List.mem_of_getElem? (i := 239) (by decide +kernel)) rfl
theorem kw960 : Cond.code yX7_dredger cX7_dredger 4 (some .int) ∈ tbl := tbl_c5 (List.mem_of_getElem? (i := 0) rfl) rfl
theorem kw961 : Cond.constantLong RX7 168 (4) ∈ tbl := tbl_c5 (List.mem_of_getElem? (i := 1) (by decide +kernel)) rfl
theorem kw962 : Cond.methodLink RL 79 yX7_takes ∈ tbl := tbl_c5 (List.mem_of_getElem? (i := 2) (by decide +kernel)) rfl
theorem kw963 : Cond.instanceMethod yX7_takes ∈ tbl := tbl_c5 (List.mem_of_getElem? (i := 3) (by decide +kernel)) rfl
theorem kw964 : Cond.selects RX7 yX7_takes yX7_takes ∈ tbl := tbl_c5 (List.mem_of_getElem? (i := 4) (by decide +kernel)) rfl
theorem kw965 : Cond.code yX7_takes cX7_takes 1 (some .int) ∈ tbl := tbl_c5 (List.mem_of_getElem? (i := 5) rfl) rfl
theorem kw966 : Cond.methodLink RX7 189 yX7_kindAt ∈ tbl := tbl_c5 (List.mem_of_getElem? (i := 6) (by decide +kernel)) rfl
theorem kw968 : Cond.instanceMethod yX7_kindAt ∈ tbl := tbl_c5 (List.mem_of_getElem? (i := 8) (by decide +kernel)) rfl
theorem kw969 : Cond.code yX7_kindAt cX7_kindAt 2 (some .int) ∈ tbl := tbl_c5 (List.mem_of_getElem? (i := 9) rfl) rfl
theorem kw970 : Cond.methodLink RX7 213 yX7_chosen ∈ tbl := tbl_c5 (List.mem_of_getElem? (i := 10) (by decide +kernel)) rfl
theorem kw972 : Cond.instanceMethod yX7_chosen ∈ tbl := tbl_c5 (List.mem_of_getElem? (i := 12) (by decide +kernel)) rfl
theorem kw973 : Cond.code yX7_chosen cX7_chosen 3 (some .int) ∈ tbl := tbl_c5 (List.mem_of_getElem? (i := 13) rfl) rfl
theorem kw974 : Cond.methodLink RX7 179 yX7_lackingMost ∈ tbl := tbl_c5 (List.mem_of_getElem? (i := 14) (by decide +kernel)) rfl
theorem kw976 : Cond.instanceMethod yX7_lackingMost ∈ tbl := tbl_c5 (List.mem_of_getElem? (i := 16) (by decide +kernel)) rfl
theorem kw977 : Cond.code yX7_lackingMost cX7_lackingMost 4 (some .int) ∈ tbl := tbl_c5 (List.mem_of_getElem? (i := 17) rfl) rfl
theorem kw978 : Cond.methodLink RX7 183 yX7_deepest ∈ tbl := tbl_c5 (List.mem_of_getElem? (i := 18) (by decide +kernel)) rfl
theorem kw980 : Cond.instanceMethod yX7_deepest ∈ tbl := tbl_c5 (List.mem_of_getElem? (i := 20) (by decide +kernel)) rfl
theorem kw981 : Cond.code yX7_deepest cX7_deepest 4 (some .int) ∈ tbl := tbl_c5 (List.mem_of_getElem? (i := 21) rfl) rfl
theorem kw982 : Cond.methodLink RL 83 yX7_go ∈ tbl := tbl_c5 (List.mem_of_getElem? (i := 22) (by decide +kernel)) rfl
theorem kw983 : Cond.instanceMethod yX7_go ∈ tbl := tbl_c5 (List.mem_of_getElem? (i := 23) (by decide +kernel)) rfl
theorem kw984 : Cond.selects RX7 yX7_go yX7_go ∈ tbl := tbl_c5 (List.mem_of_getElem? (i := 24) (by decide +kernel)) rfl
theorem kw985 : Cond.code yX7_go cX7_go 3 (some .int) ∈ tbl := tbl_c5 (List.mem_of_getElem? (i := 25) rfl) rfl
theorem kw986 : Cond.methodLink RX7 220 yX7_wrongTides ∈ tbl := tbl_c5 (List.mem_of_getElem? (i := 26) (by decide +kernel)) rfl
theorem kw988 : Cond.instanceMethod yX7_wrongTides ∈ tbl := tbl_c5 (List.mem_of_getElem? (i := 28) (by decide +kernel)) rfl
theorem kw989 : Cond.code yX7_wrongTides cX7_wrongTides 2 (some .int) ∈ tbl := tbl_c5 (List.mem_of_getElem? (i := 29) rfl) rfl
theorem kw990 : Cond.methodLink RX7 223 yX7_passTide ∈ tbl := tbl_c5 (List.mem_of_getElem? (i := 30) (by decide +kernel)) rfl
theorem kw992 : Cond.instanceMethod yX7_passTide ∈ tbl := tbl_c5 (List.mem_of_getElem? (i := 32) (by decide +kernel)) rfl
theorem kw993 : Cond.code yX7_passTide cX7_passTide 1 none ∈ tbl := tbl_c5 (List.mem_of_getElem? (i := 33) rfl) rfl
theorem kw994 : Cond.methodLink RX7 210 yX7_flow ∈ tbl := tbl_c5 (List.mem_of_getElem? (i := 34) (by decide +kernel)) rfl
theorem kw996 : Cond.instanceMethod yX7_flow ∈ tbl := tbl_c5 (List.mem_of_getElem? (i := 36) (by decide +kernel)) rfl
theorem kw997 : Cond.code yX7_flow cX7_flow 5 none ∈ tbl := tbl_c5 (List.mem_of_getElem? (i := 37) rfl) rfl
theorem kw998 : Cond.constantLong RX7 192 (100) ∈ tbl := tbl_c5 (List.mem_of_getElem? (i := 38) (by decide +kernel)) rfl
theorem kw999 : Cond.methodLink RX7 216 yX7_take ∈ tbl := tbl_c5 (List.mem_of_getElem? (i := 39) (by decide +kernel)) rfl
theorem kw1001 : Cond.instanceMethod yX7_take ∈ tbl := tbl_c5 (List.mem_of_getElem? (i := 41) (by decide +kernel)) rfl
theorem kw1002 : Cond.code yX7_take cX7_take 6 none ∈ tbl := tbl_c5 (List.mem_of_getElem? (i := 42) rfl) rfl
theorem kw1003 : Cond.methodLink RL 88 yX7_cost ∈ tbl := tbl_c5 (List.mem_of_getElem? (i := 43) (by decide +kernel)) rfl
theorem kw1004 : Cond.instanceMethod yX7_cost ∈ tbl := tbl_c5 (List.mem_of_getElem? (i := 44) (by decide +kernel)) rfl
theorem kw1005 : Cond.selects RX7 yX7_cost yX7_cost ∈ tbl := tbl_c5 (List.mem_of_getElem? (i := 45) (by decide +kernel)) rfl
theorem kw1006 : Cond.code yX7_cost cX7_cost 2 (some .long) ∈ tbl := tbl_c5 (List.mem_of_getElem? (i := 46) rfl) rfl
theorem kw1007 : Cond.constantLong RX7 244 (-4000000000000000000) ∈ tbl := tbl_c5 (List.mem_of_getElem? (i := 47) (by decide +kernel)) rfl
theorem kw1008 : Cond.methodLink RX7 246 yX7_costOf ∈ tbl := tbl_c5 (List.mem_of_getElem? (i := 48) (by decide +kernel)) rfl
theorem kw1010 : Cond.instanceMethod yX7_costOf ∈ tbl := tbl_c5 (List.mem_of_getElem? (i := 50) (by decide +kernel)) rfl
theorem kw1011 : Cond.code yX7_costOf cX7_costOf 5 (some .long) ∈ tbl := tbl_c5 (List.mem_of_getElem? (i := 51) rfl) rfl
theorem kw1012 : Cond.methodLink RX7 235 yX7_save ∈ tbl := tbl_c5 (List.mem_of_getElem? (i := 52) (by decide +kernel)) rfl
theorem kw1014 : Cond.instanceMethod yX7_save ∈ tbl := tbl_c5 (List.mem_of_getElem? (i := 54) (by decide +kernel)) rfl
theorem kw1015 : Cond.code yX7_save cX7_save 2 none ∈ tbl := tbl_c5 (List.mem_of_getElem? (i := 55) rfl) rfl
theorem kw1016 : Cond.methodLink RX7 238 yX7_costNow ∈ tbl := tbl_c5 (List.mem_of_getElem? (i := 56) (by decide +kernel)) rfl
theorem kw1018 : Cond.instanceMethod yX7_costNow ∈ tbl := tbl_c5 (List.mem_of_getElem? (i := 58) (by decide +kernel)) rfl
theorem kw1019 : Cond.code yX7_costNow cX7_costNow 1 (some .int) ∈ tbl := tbl_c5 (List.mem_of_getElem? (i := 59) rfl) rfl
theorem kw1020 : Cond.methodLink RX7 206 yX7_feetLacking ∈ tbl := tbl_c5 (List.mem_of_getElem? (i := 60) (by decide +kernel)) rfl
theorem kw1022 : Cond.instanceMethod yX7_feetLacking ∈ tbl := tbl_c5 (List.mem_of_getElem? (i := 62) (by decide +kernel)) rfl
theorem kw1023 : Cond.code yX7_feetLacking cX7_feetLacking 5 (some .int) ∈ tbl := tbl_c5 (List.mem_of_getElem? (i := 63) rfl) rfl
theorem kw1024 : Cond.methodLink RX7 241 yX7_putBack ∈ tbl := tbl_c5 (List.mem_of_getElem? (i := 64) (by decide +kernel)) rfl
theorem kw1026 : Cond.instanceMethod yX7_putBack ∈ tbl := tbl_c5 (List.mem_of_getElem? (i := 66) (by decide +kernel)) rfl
theorem kw1027 : Cond.code yX7_putBack cX7_putBack 2 none ∈ tbl := tbl_c5 (List.mem_of_getElem? (i := 67) rfl) rfl
theorem kw1028 : Cond.methodLink RL 92 yX7_holds ∈ tbl := tbl_c5 (List.mem_of_getElem? (i := 68) (by decide +kernel)) rfl
theorem kw1029 : Cond.instanceMethod yX7_holds ∈ tbl := tbl_c5 (List.mem_of_getElem? (i := 69) (by decide +kernel)) rfl
theorem kw1030 : Cond.selects RX7 yX7_holds yX7_holds ∈ tbl := tbl_c5 (List.mem_of_getElem? (i := 70) (by decide +kernel)) rfl
theorem kw1031 : Cond.code yX7_holds cX7_holds 2 (some .int) ∈ tbl := tbl_c5 (List.mem_of_getElem? (i := 71) rfl) rfl
theorem kw1032 : Cond.methodLink RX7 250 yX7_holdsFor ∈ tbl := tbl_c5 (List.mem_of_getElem? (i := 72) (by decide +kernel)) rfl
theorem kw1034 : Cond.instanceMethod yX7_holdsFor ∈ tbl := tbl_c5 (List.mem_of_getElem? (i := 74) (by decide +kernel)) rfl
theorem kw1035 : Cond.code yX7_holdsFor cX7_holdsFor 4 (some .int) ∈ tbl := tbl_c5 (List.mem_of_getElem? (i := 75) rfl) rfl
theorem kw1036 : Cond.methodLink RL 96 yX7_alone ∈ tbl := tbl_c5 (List.mem_of_getElem? (i := 76) (by decide +kernel)) rfl
theorem kw1037 : Cond.instanceMethod yX7_alone ∈ tbl := tbl_c5 (List.mem_of_getElem? (i := 77) (by decide +kernel)) rfl
theorem kw1038 : Cond.selects RX7 yX7_alone yX7_alone ∈ tbl := tbl_c5 (List.mem_of_getElem? (i := 78) (by decide +kernel)) rfl
theorem kw1039 : Cond.code yX7_alone cX7_alone 4 (some .int) ∈ tbl := tbl_c5 (List.mem_of_getElem? (i := 79) rfl) rfl
theorem kw1040 : Cond.methodLink RL 101 yX7_back ∈ tbl := tbl_c5 (List.mem_of_getElem? (i := 80) (by decide +kernel)) rfl
theorem kw1041 : Cond.instanceMethod yX7_back ∈ tbl := tbl_c5 (List.mem_of_getElem? (i := 81) (by decide +kernel)) rfl
theorem kw1042 : Cond.selects RX7 yX7_back yX7_back ∈ tbl := tbl_c5 (List.mem_of_getElem? (i := 82) (by decide +kernel)) rfl
theorem kw1043 : Cond.code yX7_back cX7_back 6 (some .int) ∈ tbl := tbl_c5 (List.mem_of_getElem? (i := 83) rfl) rfl
theorem kw1044 : Cond.methodLink RX7 253 yX7_tonsAfter ∈ tbl := tbl_c5 (List.mem_of_getElem? (i := 84) (by decide +kernel)) rfl
theorem kw1046 : Cond.instanceMethod yX7_tonsAfter ∈ tbl := tbl_c5 (List.mem_of_getElem? (i := 86) (by decide +kernel)) rfl
theorem kw1047 : Cond.code yX7_tonsAfter cX7_tonsAfter 8 (some .int) ∈ tbl := tbl_c5 (List.mem_of_getElem? (i := 87) rfl) rfl
theorem kw1048 : Cond.methodLink RL 105 yX7_bestDrop ∈ tbl := tbl_c5 (List.mem_of_getElem? (i := 88) (by decide +kernel)) rfl
theorem kw1049 : Cond.instanceMethod yX7_bestDrop ∈ tbl := tbl_c5 (List.mem_of_getElem? (i := 89) (by decide +kernel)) rfl
theorem kw1050 : Cond.selects RX7 yX7_bestDrop yX7_bestDrop ∈ tbl := tbl_c5 (List.mem_of_getElem? (i := 90) (by decide +kernel)) rfl
theorem kw1051 : Cond.code yX7_bestDrop cX7_bestDrop 9 (some .int) ∈ tbl := tbl_c5 (List.mem_of_getElem? (i := 91) rfl) rfl
theorem kw1052 : Cond.methodLink RL 109 yX7_bestPlan ∈ tbl := tbl_c5 (List.mem_of_getElem? (i := 92) (by decide +kernel)) rfl
theorem kw1053 : Cond.instanceMethod yX7_bestPlan ∈ tbl := tbl_c5 (List.mem_of_getElem? (i := 93) (by decide +kernel)) rfl
theorem kw1054 : Cond.selects RX7 yX7_bestPlan yX7_bestPlan ∈ tbl := tbl_c5 (List.mem_of_getElem? (i := 94) (by decide +kernel)) rfl
theorem kw1055 : Cond.code yX7_bestPlan cX7_bestPlan 9 (some .int) ∈ tbl := tbl_c5 (List.mem_of_getElem? (i := 95) rfl) rfl
theorem kw1056 : Cond.methodLink RL 113 yX7_leastCap ∈ tbl := tbl_c5 (List.mem_of_getElem? (i := 96) (by decide +kernel)) rfl
theorem kw1057 : Cond.instanceMethod yX7_leastCap ∈ tbl := tbl_c5 (List.mem_of_getElem? (i := 97) (by decide +kernel)) rfl
theorem kw1058 : Cond.selects RX7 yX7_leastCap yX7_leastCap ∈ tbl := tbl_c5 (List.mem_of_getElem? (i := 98) (by decide +kernel)) rfl
theorem kw1059 : Cond.code yX7_leastCap cX7_leastCap 5 (some .int) ∈ tbl := tbl_c5 (List.mem_of_getElem? (i := 99) rfl) rfl
theorem kw1060 : Cond.methodLink RL 117 yX7_wall ∈ tbl := tbl_c5 (List.mem_of_getElem? (i := 100) (by decide +kernel)) rfl
theorem kw1061 : Cond.instanceMethod yX7_wall ∈ tbl := tbl_c5 (List.mem_of_getElem? (i := 101) (by decide +kernel)) rfl
theorem kw1062 : Cond.selects RX7 yX7_wall yX7_wall ∈ tbl := tbl_c5 (List.mem_of_getElem? (i := 102) (by decide +kernel)) rfl
theorem kw1063 : Cond.code yX7_wall cX7_wall 8 (some .int) ∈ tbl := tbl_c5 (List.mem_of_getElem? (i := 103) rfl) rfl
theorem kw1064 : Cond.methodLink RL 121 yX7_share ∈ tbl := tbl_c5 (List.mem_of_getElem? (i := 104) (by decide +kernel)) rfl
theorem kw1065 : Cond.instanceMethod yX7_share ∈ tbl := tbl_c5 (List.mem_of_getElem? (i := 105) (by decide +kernel)) rfl
theorem kw1066 : Cond.selects RX7 yX7_share yX7_share ∈ tbl := tbl_c5 (List.mem_of_getElem? (i := 106) (by decide +kernel)) rfl
theorem kw1067 : Cond.code yX7_share cX7_share 3 (some .int) ∈ tbl := tbl_c5 (List.mem_of_getElem? (i := 107) rfl) rfl
theorem kw1068 : Cond.methodLink RX7 257 yX7_settledAfter ∈ tbl := tbl_c5 (List.mem_of_getElem? (i := 108) (by decide +kernel)) rfl
theorem kw1070 : Cond.instanceMethod yX7_settledAfter ∈ tbl := tbl_c5 (List.mem_of_getElem? (i := 110) (by decide +kernel)) rfl
theorem kw1071 : Cond.code yX7_settledAfter cX7_settledAfter 5 (some .int) ∈ tbl := tbl_c5 (List.mem_of_getElem? (i := 111) rfl) rfl
theorem kw1072 : Cond.methodLink RL 125 yX7_row ∈ tbl := tbl_c5 (List.mem_of_getElem? (i := 112) (by decide +kernel)) rfl
theorem kw1073 : Cond.instanceMethod yX7_row ∈ tbl := tbl_c5 (List.mem_of_getElem? (i := 113) (by decide +kernel)) rfl
theorem kw1074 : Cond.selects RX7 yX7_row yX7_row ∈ tbl := tbl_c5 (List.mem_of_getElem? (i := 114) (by decide +kernel)) rfl
theorem kw1075 : Cond.code yX7_row cX7_row 2 (some .int) ∈ tbl := tbl_c5 (List.mem_of_getElem? (i := 115) rfl) rfl
theorem kw1076 : Cond.methodLink RL 129 yX7_judge ∈ tbl := tbl_c5 (List.mem_of_getElem? (i := 116) (by decide +kernel)) rfl
theorem kw1077 : Cond.instanceMethod yX7_judge ∈ tbl := tbl_c5 (List.mem_of_getElem? (i := 117) (by decide +kernel)) rfl
theorem kw1078 : Cond.selects RX7 yX7_judge yX7_judge ∈ tbl := tbl_c5 (List.mem_of_getElem? (i := 118) (by decide +kernel)) rfl
theorem kw1079 : Cond.code yX7_judge cX7_judge 5 (some .int) ∈ tbl := tbl_c5 (List.mem_of_getElem? (i := 119) rfl) rfl
theorem kw1080 : Cond.constantLong RX7 264 (2) ∈ tbl := tbl_c5 (List.mem_of_getElem? (i := 120) (by decide +kernel)) rfl
theorem kw1081 : Cond.methodLink RL 19 yX7_feed ∈ tbl := tbl_c5 (List.mem_of_getElem? (i := 121) (by decide +kernel)) rfl
theorem kw1082 : Cond.instanceMethod yX7_feed ∈ tbl := tbl_c5 (List.mem_of_getElem? (i := 122) (by decide +kernel)) rfl
theorem kw1083 : Cond.selects RX7 yX7_feed yX7_feed ∈ tbl := tbl_c5 (List.mem_of_getElem? (i := 123) (by decide +kernel)) rfl
theorem kw1084 : Cond.code yX7_feed cX7_feed 5 (some .int) ∈ tbl := tbl_c5 (List.mem_of_getElem? (i := 124) rfl) rfl
theorem kw1085 : Cond.constantLong RX7 266 (255) ∈ tbl := tbl_c5 (List.mem_of_getElem? (i := 125) (by decide +kernel)) rfl
theorem kw1086 : Cond.methodLink RL 24 yX7_coast ∈ tbl := tbl_c5 (List.mem_of_getElem? (i := 126) (by decide +kernel)) rfl
theorem kw1087 : Cond.instanceMethod yX7_coast ∈ tbl := tbl_c5 (List.mem_of_getElem? (i := 127) (by decide +kernel)) rfl
theorem kw1088 : Cond.selects RX7 yX7_coast yX7_coast ∈ tbl := tbl_c5 (List.mem_of_getElem? (i := 128) (by decide +kernel)) rfl
theorem kw1089 : Cond.code yX7_coast cX7_coast 7 (some .int) ∈ tbl := tbl_c5 (List.mem_of_getElem? (i := 129) rfl) rfl
theorem kw1090 : Cond.methodLink RX7 305 yX7_readStatement ∈ tbl := tbl_c5 (List.mem_of_getElem? (i := 130) (by decide +kernel)) rfl
theorem kw1092 : Cond.instanceMethod yX7_readStatement ∈ tbl := tbl_c5 (List.mem_of_getElem? (i := 132) (by decide +kernel)) rfl
theorem kw1093 : Cond.code yX7_readStatement cX7_readStatement 3 none ∈ tbl := tbl_c5 (List.mem_of_getElem? (i := 133) rfl) rfl
theorem kw1094 : Cond.methodLink RX7 278 yX7_here ∈ tbl := tbl_c5 (List.mem_of_getElem? (i := 134) (by decide +kernel)) rfl
theorem kw1096 : Cond.instanceMethod yX7_here ∈ tbl := tbl_c5 (List.mem_of_getElem? (i := 136) (by decide +kernel)) rfl
theorem kw1097 : Cond.code yX7_here cX7_here 1 (some .int) ∈ tbl := tbl_c5 (List.mem_of_getElem? (i := 137) rfl) rfl
theorem kw1098 : Cond.methodLink RX7 285 yX7_takeSign ∈ tbl := tbl_c5 (List.mem_of_getElem? (i := 138) (by decide +kernel)) rfl
theorem kw1100 : Cond.instanceMethod yX7_takeSign ∈ tbl := tbl_c5 (List.mem_of_getElem? (i := 140) (by decide +kernel)) rfl
theorem kw1101 : Cond.code yX7_takeSign cX7_takeSign 2 none ∈ tbl := tbl_c5 (List.mem_of_getElem? (i := 141) rfl) rfl
theorem kw1102 : Cond.methodLink RX7 295 yX7_readNumber ∈ tbl := tbl_c5 (List.mem_of_getElem? (i := 142) (by decide +kernel)) rfl
theorem kw1104 : Cond.instanceMethod yX7_readNumber ∈ tbl := tbl_c5 (List.mem_of_getElem? (i := 144) (by decide +kernel)) rfl
theorem kw1105 : Cond.code yX7_readNumber cX7_readNumber 3 (some .int) ∈ tbl := tbl_c5 (List.mem_of_getElem? (i := 145) rfl) rfl
theorem kw1106 : Cond.methodLink RX7 289 yX7_readDigit ∈ tbl := tbl_c5 (List.mem_of_getElem? (i := 146) (by decide +kernel)) rfl
theorem kw1108 : Cond.instanceMethod yX7_readDigit ∈ tbl := tbl_c5 (List.mem_of_getElem? (i := 148) (by decide +kernel)) rfl
theorem kw1109 : Cond.code yX7_readDigit cX7_readDigit 2 (some .int) ∈ tbl := tbl_c5 (List.mem_of_getElem? (i := 149) rfl) rfl
theorem kw1110 : Cond.constantLong RX7 281 (48) ∈ tbl := tbl_c5 (List.mem_of_getElem? (i := 150) (by decide +kernel)) rfl
theorem kw1111 : Cond.constantLong RX7 283 (57) ∈ tbl := tbl_c5 (List.mem_of_getElem? (i := 151) (by decide +kernel)) rfl
theorem kw1112 : Cond.methodLink RX7 298 yX7_readOf ∈ tbl := tbl_c5 (List.mem_of_getElem? (i := 152) (by decide +kernel)) rfl
theorem kw1114 : Cond.instanceMethod yX7_readOf ∈ tbl := tbl_c5 (List.mem_of_getElem? (i := 154) (by decide +kernel)) rfl
theorem kw1115 : Cond.code yX7_readOf cX7_readOf 4 (some .int) ∈ tbl := tbl_c5 (List.mem_of_getElem? (i := 155) rfl) rfl
theorem kw1116 : Cond.methodLink RX7 308 yX7_comes ∈ tbl := tbl_c5 (List.mem_of_getElem? (i := 156) (by decide +kernel)) rfl
theorem kw1118 : Cond.instanceMethod yX7_comes ∈ tbl := tbl_c5 (List.mem_of_getElem? (i := 158) (by decide +kernel)) rfl
theorem kw1119 : Cond.code yX7_comes cX7_comes 9 (some .boolean) ∈ tbl := tbl_c5 (List.mem_of_getElem? (i := 159) rfl) rfl
theorem kw1120 : Cond.constantLong RX7 301 (99) ∈ tbl := tbl_c5 (List.mem_of_getElem? (i := 160) (by decide +kernel)) rfl
theorem kw1121 : Cond.constantLong RX7 303 (999) ∈ tbl := tbl_c5 (List.mem_of_getElem? (i := 161) (by decide +kernel)) rfl
theorem kw1122 : Cond.methodLink RL 133 yX7_image ∈ tbl := tbl_c5 (List.mem_of_getElem? (i := 162) (by decide +kernel)) rfl
theorem kw1123 : Cond.instanceMethod yX7_image ∈ tbl := tbl_c5 (List.mem_of_getElem? (i := 163) (by decide +kernel)) rfl
theorem kw1124 : Cond.selects RX7 yX7_image yX7_image ∈ tbl := tbl_c5 (List.mem_of_getElem? (i := 164) (by decide +kernel)) rfl
theorem kw1125 : Cond.code yX7_image cX7_image 1 (some .int) ∈ tbl := tbl_c5 (List.mem_of_getElem? (i := 165) rfl) rfl
theorem kw1126 : Cond.methodLink RX7 323 yX7_carryAll ∈ tbl := tbl_c5 (List.mem_of_getElem? (i := 166) (by decide +kernel)) rfl
theorem kw1128 : Cond.instanceMethod yX7_carryAll ∈ tbl := tbl_c5 (List.mem_of_getElem? (i := 168) (by decide +kernel)) rfl
theorem kw1129 : Cond.code yX7_carryAll cX7_carryAll 2 none ∈ tbl := tbl_c5 (List.mem_of_getElem? (i := 169) rfl) rfl
theorem kw1130 : Cond.methodLink RX7 317 yX7_carry ∈ tbl := tbl_c5 (List.mem_of_getElem? (i := 170) (by decide +kernel)) rfl
theorem kw1132 : Cond.instanceMethod yX7_carry ∈ tbl := tbl_c5 (List.mem_of_getElem? (i := 172) (by decide +kernel)) rfl
theorem kw1133 : Cond.code yX7_carry cX7_carry 2 (some .int) ∈ tbl := tbl_c5 (List.mem_of_getElem? (i := 173) rfl) rfl
theorem kw1134 : Cond.methodLink RL 137 yX7_restore ∈ tbl := tbl_c5 (List.mem_of_getElem? (i := 174) (by decide +kernel)) rfl
theorem kw1135 : Cond.instanceMethod yX7_restore ∈ tbl := tbl_c5 (List.mem_of_getElem? (i := 175) (by decide +kernel)) rfl
theorem kw1136 : Cond.selects RX7 yX7_restore yX7_restore ∈ tbl := tbl_c5 (List.mem_of_getElem? (i := 176) (by decide +kernel)) rfl
theorem kw1137 : Cond.code yX7_restore cX7_restore 1 (some .int) ∈ tbl := tbl_c5 (List.mem_of_getElem? (i := 177) rfl) rfl
theorem kw1138 : Cond.methodLink RL 141 yX7_count ∈ tbl := tbl_c5 (List.mem_of_getElem? (i := 178) (by decide +kernel)) rfl
theorem kw1139 : Cond.instanceMethod yX7_count ∈ tbl := tbl_c5 (List.mem_of_getElem? (i := 179) (by decide +kernel)) rfl
theorem kw1140 : Cond.selects RX7 yX7_count yX7_count ∈ tbl := tbl_c5 (List.mem_of_getElem? (i := 180) (by decide +kernel)) rfl
theorem kw1141 : Cond.code yX7_count cX7_count 4 (some .int) ∈ tbl := tbl_c5 (List.mem_of_getElem? (i := 181) rfl) rfl
theorem kw1142 : Cond.constantLong RX7 326 (11) ∈ tbl := tbl_c5 (List.mem_of_getElem? (i := 182) (by decide +kernel)) rfl
theorem kw1143 : Cond.constantLong RX7 328 (16) ∈ tbl := tbl_c5 (List.mem_of_getElem? (i := 183) (by decide +kernel)) rfl
theorem kw1144 : Cond.constantLong RL 13 (4294967295) ∈ tbl := tbl_c5 (List.mem_of_getElem? (i := 184) (by decide +kernel)) rfl
theorem ks0 : Cond.selects RX6 yX6_refuse yX6_refuse ∈ tbl := tbl_s 0 (by decide +kernel) rfl
theorem ks1 : Cond.selects RX1 yX1_readStatement yX1_readStatement ∈ tbl := tbl_s 1 (by decide +kernel) rfl
theorem ks2 : Cond.selects RX1 yX1_byteHere yX1_byteHere ∈ tbl := tbl_s 2 (by decide +kernel) rfl
theorem ks3 : Cond.selects RX1 yX1_readNumber yX1_readNumber ∈ tbl := tbl_s 3 (by decide +kernel) rfl
theorem ks4 : Cond.selects RX1 yX1_digitIsHere yX1_digitIsHere ∈ tbl := tbl_s 4 (by decide +kernel) rfl
theorem ks5 : Cond.selects RX1 yX1_readSign yX1_readSign ∈ tbl := tbl_s 5 (by decide +kernel) rfl
theorem ks6 : Cond.selects RX1 yX1_readDigit yX1_readDigit ∈ tbl := tbl_s 6 (by decide +kernel) rfl
theorem ks7 : Cond.selects RX1 yX1_readKind yX1_readKind ∈ tbl := tbl_s 7 (by decide +kernel) rfl
theorem ks8 : Cond.selects RX1 yX1_readStuff yX1_readStuff ∈ tbl := tbl_s 8 (by decide +kernel) rfl
theorem ks9 : Cond.selects RX1 yX1_readMoon yX1_readMoon ∈ tbl := tbl_s 9 (by decide +kernel) rfl
theorem ks10 : Cond.selects RX1 yX1_giveTo yX1_giveTo ∈ tbl := tbl_s 10 (by decide +kernel) rfl
theorem ks11 : Cond.selects RX6 yX6_refuseIfBelow0 yX6_refuseIfBelow0 ∈ tbl := tbl_s 11 (by decide +kernel) rfl
theorem ks12 : Cond.selects RX6 yX6_whyNoRun yX6_whyNoRun ∈ tbl := tbl_s 12 (by decide +kernel) rfl
theorem ks13 : Cond.selects RX3 yX3_carry yX3_carry ∈ tbl := tbl_s 13 (by decide +kernel) rfl
theorem ks14 : Cond.selects RX3 yX3_bring yX3_bring ∈ tbl := tbl_s 14 (by decide +kernel) rfl
theorem ks15 : Cond.selects RX3 yX3_dredge yX3_dredge ∈ tbl := tbl_s 15 (by decide +kernel) rfl
theorem ks16 : Cond.selects RX3 yX3_dredgeStuff yX3_dredgeStuff ∈ tbl := tbl_s 16 (by decide +kernel) rfl
theorem ks17 : Cond.selects RX6 yX6_rowIsOfCells yX6_rowIsOfCells ∈ tbl := tbl_s 17 (by decide +kernel) rfl
theorem ks18 : Cond.selects RX7 yX7_refuse yX7_refuse ∈ tbl := tbl_s 18 (by decide +kernel) rfl
theorem ks19 : Cond.selects RX7 yX7_addCell yX7_addCell ∈ tbl := tbl_s 19 (by decide +kernel) rfl
theorem ks20 : Cond.selects RX7 yX7_isCell yX7_isCell ∈ tbl := tbl_s 20 (by decide +kernel) rfl
theorem ks21 : Cond.selects RX7 yX7_areEnds yX7_areEnds ∈ tbl := tbl_s 21 (by decide +kernel) rfl
theorem ks22 : Cond.selects RX7 yX7_partsFrom yX7_partsFrom ∈ tbl := tbl_s 22 (by decide +kernel) rfl
theorem ks23 : Cond.selects RX7 yX7_addWay yX7_addWay ∈ tbl := tbl_s 23 (by decide +kernel) rfl
theorem ks24 : Cond.selects RX7 yX7_addRiver yX7_addRiver ∈ tbl := tbl_s 24 (by decide +kernel) rfl
theorem ks25 : Cond.selects RX7 yX7_depthOf yX7_depthOf ∈ tbl := tbl_s 25 (by decide +kernel) rfl
theorem ks26 : Cond.selects RX7 yX7_settledIn yX7_settledIn ∈ tbl := tbl_s 26 (by decide +kernel) rfl
theorem ks27 : Cond.selects RX7 yX7_lacksOf yX7_lacksOf ∈ tbl := tbl_s 27 (by decide +kernel) rfl
theorem ks28 : Cond.selects RX7 yX7_kindAt yX7_kindAt ∈ tbl := tbl_s 28 (by decide +kernel) rfl
theorem ks29 : Cond.selects RX7 yX7_chosen yX7_chosen ∈ tbl := tbl_s 29 (by decide +kernel) rfl
theorem ks30 : Cond.selects RX7 yX7_lackingMost yX7_lackingMost ∈ tbl := tbl_s 30 (by decide +kernel) rfl
theorem ks31 : Cond.selects RX7 yX7_deepest yX7_deepest ∈ tbl := tbl_s 31 (by decide +kernel) rfl
theorem ks32 : Cond.selects RX7 yX7_wrongTides yX7_wrongTides ∈ tbl := tbl_s 32 (by decide +kernel) rfl
theorem ks33 : Cond.selects RX7 yX7_passTide yX7_passTide ∈ tbl := tbl_s 33 (by decide +kernel) rfl
theorem ks34 : Cond.selects RX7 yX7_flow yX7_flow ∈ tbl := tbl_s 34 (by decide +kernel) rfl
theorem ks35 : Cond.selects RX7 yX7_take yX7_take ∈ tbl := tbl_s 35 (by decide +kernel) rfl
theorem ks36 : Cond.selects RX7 yX7_costOf yX7_costOf ∈ tbl := tbl_s 36 (by decide +kernel) rfl
theorem ks37 : Cond.selects RX7 yX7_save yX7_save ∈ tbl := tbl_s 37 (by decide +kernel) rfl
theorem ks38 : Cond.selects RX7 yX7_costNow yX7_costNow ∈ tbl := tbl_s 38 (by decide +kernel) rfl
theorem ks39 : Cond.selects RX7 yX7_feetLacking yX7_feetLacking ∈ tbl := tbl_s 39 (by decide +kernel) rfl
theorem ks40 : Cond.selects RX7 yX7_putBack yX7_putBack ∈ tbl := tbl_s 40 (by decide +kernel) rfl
theorem ks41 : Cond.selects RX7 yX7_holdsFor yX7_holdsFor ∈ tbl := tbl_s 41 (by decide +kernel) rfl
theorem ks42 : Cond.selects RX7 yX7_tonsAfter yX7_tonsAfter ∈ tbl := tbl_s 42 (by decide +kernel) rfl
theorem ks43 : Cond.selects RX7 yX7_settledAfter yX7_settledAfter ∈ tbl := tbl_s 43 (by decide +kernel) rfl
theorem ks44 : Cond.selects RX7 yX7_readStatement yX7_readStatement ∈ tbl := tbl_s 44 (by decide +kernel) rfl
theorem ks45 : Cond.selects RX7 yX7_here yX7_here ∈ tbl := tbl_s 45 (by decide +kernel) rfl
theorem ks46 : Cond.selects RX7 yX7_takeSign yX7_takeSign ∈ tbl := tbl_s 46 (by decide +kernel) rfl
theorem ks47 : Cond.selects RX7 yX7_readNumber yX7_readNumber ∈ tbl := tbl_s 47 (by decide +kernel) rfl
theorem ks48 : Cond.selects RX7 yX7_readDigit yX7_readDigit ∈ tbl := tbl_s 48 (by decide +kernel) rfl
theorem ks49 : Cond.selects RX7 yX7_readOf yX7_readOf ∈ tbl := tbl_s 49 (by decide +kernel) rfl
theorem ks50 : Cond.selects RX7 yX7_comes yX7_comes ∈ tbl := tbl_s 50 (by decide +kernel) rfl
theorem ks51 : Cond.selects RX7 yX7_carryAll yX7_carryAll ∈ tbl := tbl_s 51 (by decide +kernel) rfl
theorem ks52 : Cond.selects RX7 yX7_carry yX7_carry ∈ tbl := tbl_s 52 (by decide +kernel) rfl
set_option maxRecDepth 20000 in
theorem inT0 : ∀ w ∈ u_ws RX0 TX0 8, w ∈ tbl := by decide +kernel
set_option maxRecDepth 20000 in
theorem inT1 : ∀ w ∈ u_ws RX1 TX1 12, w ∈ tbl := by decide +kernel
set_option maxRecDepth 20000 in
theorem inT2 : ∀ w ∈ u_ws RX2 TX2 5, w ∈ tbl := by decide +kernel
set_option maxRecDepth 20000 in
theorem inT3 : ∀ w ∈ u_ws RX3 TX3 12, w ∈ tbl := by decide +kernel
set_option maxRecDepth 20000 in
theorem inT4 : ∀ w ∈ u_ws RX4 TX4 4, w ∈ tbl := by decide +kernel
set_option maxRecDepth 20000 in
theorem inT5 : ∀ w ∈ u_ws RX5 TX5 7, w ∈ tbl := by decide +kernel
set_option maxRecDepth 20000 in
theorem inT6 : ∀ w ∈ u_ws RX6 TX6 8, w ∈ tbl := by decide +kernel
set_option maxRecDepth 20000 in
theorem inT7 : ∀ w ∈ u_ws RX7 TX7 55, w ∈ tbl := by decide +kernel
def nestW : List Cond := [Cond.methodLinkNest RX6 9 yX3_init "HarbourMud", Cond.methodLinkNest RX3 11 yX0_init "HarbourMud", Cond.methodLinkNest RX3 20 yX5_init "HarbourMud", Cond.methodLinkNest RX3 27 yX4_init "HarbourMud", Cond.methodLinkNest RX3 34 yX2_init "HarbourMud", Cond.methodLinkNest RX6 28 yX1_init "HarbourMud", Cond.methodLinkNest RX3 82 yX6_isKind "HarbourMud", Cond.methodLinkNest RX3 85 yX6_isStuff "HarbourMud", Cond.methodLinkNest RX0 47 yX6_depthAbove "HarbourMud", Cond.methodLinkNest RX0 63 yX6_heapOf "HarbourMud", Cond.methodLinkNest RX0 69 yX6_partOf "HarbourMud", Cond.methodLinkNest RX3 154 yX6_heapOf "HarbourMud", Cond.methodLinkNest RX3 161 yX6_partOf "HarbourMud", Cond.methodLinkNest RX0 59 yX6_isStuff "HarbourMud"]
theorem nestW_in : ∀ w ∈ nestW, w ∈ lw_tbl := by
  intro w h
  simp only [nestW, List.mem_cons, List.not_mem_nil, or_false] at h
  rcases h with rfl | rfl | rfl | rfl | rfl | rfl | rfl | rfl | rfl | rfl | rfl | rfl | rfl | rfl
  · exact List.mem_append_right _ (List.mem_of_getElem? (i := 21) (by decide +kernel))
  · exact List.mem_append_right _ (List.mem_of_getElem? (i := 27) (by decide +kernel))
  · exact List.mem_append_right _ (List.mem_of_getElem? (i := 62) (by decide +kernel))
  · exact List.mem_append_right _ (List.mem_of_getElem? (i := 97) (by decide +kernel))
  · exact List.mem_append_right _ (List.mem_of_getElem? (i := 122) (by decide +kernel))
  · exact List.mem_append_right _ (List.mem_of_getElem? (i := 199) (by decide +kernel))
  · exact List.mem_append_right _ (List.mem_of_getElem? (i := 363) (by decide +kernel))
  · exact List.mem_append_right _ (List.mem_of_getElem? (i := 366) (by decide +kernel))
  · exact List.mem_append_right _ (List.mem_of_getElem? (i := 480) (by decide +kernel))
  · exact List.mem_append_right _ (List.mem_of_getElem? (i := 545) (by decide +kernel))
  · exact List.mem_append_right _ (List.mem_of_getElem? (i := 546) (by decide +kernel))
  · exact List.mem_append_right _ (List.mem_of_getElem? (i := 556) (by decide +kernel))
  · exact List.mem_append_right _ (List.mem_of_getElem? (i := 557) (by decide +kernel))
  · exact List.mem_append_right _ (List.mem_of_getElem? (i := 630) (by decide +kernel))
end
section
/-! The world of this claim: 97 cells in five groups (0: HarbourMud, its text, rows; 1, 2, 3: the harbours now, mind, kept; 4: the reference). All numbers of a world are one function: group, cell, slot. -/
abbrev Gr : Type := Nat → Nat → Int32
abbrev St : Type := Nat → Gr
abbrev Shp : Type := (Nat × List (Option (Nat × Nat))) ⊕ (Nat × Bool)
abbrev GG : Type := va_G × ClassId × ClassId × (Nat → Nat → Nat)
def aa (G : GG) (g f : Nat) : Nat := G.2.2.2 g f
def mkV (G : GG) (o : Option (Nat × Nat)) (x : Int32) : Value := match o with
  | none => .int x
  | some q => .ref (aa G q.1 q.2)
def mkL (G : GG) (v : Nat → Int32) : Nat → List (Option (Nat × Nat)) → List Value
  | _, [] => []
  | k, o :: r => mkV G o (v k) :: mkL G v (k + 1) r
def mkC (G : GG) (s : Shp) (v : Nat → Int32) : va_E := match s with
  | .inl q => .inr (q.1, mkL G v 0 q.2)
  | .inr q => .inl (bif q.2 then G.2.2.1 else G.2.1, q.1, .inl v)
def shT (f : Nat) : Shp := match f with
  | 0 => .inl (6, [some (1, 0), some (2, 0), some (3, 0), none, some (0, 1), some (0, 3), none, some (0, 4)])
  | 1 => .inl (1, [none, some (0, 2), none, none, none, none, none, none, none, none, none, none])
  | 2 => .inr (96, false)
  | 3 => .inr (28, false)
  | _ => .inr (7, false)
def shH (g f : Nat) : Shp := match f with
  | 0 => .inl (3, [some (g, 1), some (g, 9), some (g, 15), some (g, 19), none, none, none, none, none, none, none, some (g, 20)])
  | 1 => .inl (0, [none, some (g, 2), some (g, 3), some (g, 4), some (g, 5), some (g, 6), some (g, 7), some (g, 8)])
  | 2 => .inr (8, false)
  | 3 => .inr (8, false)
  | 4 => .inr (8, false)
  | 5 => .inr (8, false)
  | 6 => .inr (8, false)
  | 7 => .inr (16, false)
  | 8 => .inr (16, false)
  | 9 => .inl (5, [none, some (g, 10), some (g, 11), some (g, 12), some (g, 13), some (g, 14), none])
  | 10 => .inr (24, false)
  | 11 => .inr (24, false)
  | 12 => .inr (24, false)
  | 13 => .inr (24, false)
  | 14 => .inr (24, false)
  | 15 => .inl (4, [none, some (g, 16), some (g, 17), some (g, 18)])
  | 16 => .inr (8, false)
  | 17 => .inr (8, false)
  | 18 => .inr (8, false)
  | 19 => .inl (2, [none, none, none, none, none])
  | _ => .inr (16, false)
def shM (f : Nat) : Shp := match f with
  | 0 => .inl (7, [none, some (4, 1), some (4, 2), some (4, 3), some (4, 4), some (4, 5), some (4, 6), some (4, 7), none, some (4, 9), some (4, 10), some (4, 11), some (4, 12), some (4, 13), some (4, 14), none, some (4, 16), some (4, 17), some (4, 18), some (4, 19), none, none, none, none, none, none, none, none, none, some (4, 29), none, some (4, 31), none, some (4, 33), none, some (4, 35), none, none, some (4, 38), some (4, 39), none, none, none, none, none, none, none, some (4, 47), some (4, 48), some (4, 49), some (4, 50), none, some (4, 52), none, none])
  | 1 => .inr (8, false)
  | 2 => .inr (8, false)
  | 3 => .inr (8, false)
  | 4 => .inr (8, false)
  | 5 => .inr (8, false)
  | 6 => .inr (16, false)
  | 7 => .inr (16, false)
  | 9 => .inr (24, false)
  | 10 => .inr (24, false)
  | 11 => .inr (24, false)
  | 12 => .inr (24, false)
  | 13 => .inr (24, false)
  | 14 => .inr (24, true)
  | 16 => .inr (8, false)
  | 17 => .inr (8, false)
  | 18 => .inr (8, false)
  | 19 => .inr (28, false)
  | 29 => .inr (96, false)
  | 31 => .inr (28, false)
  | 33 => .inr (7, false)
  | 35 => .inr (16, false)
  | 38 => .inr (16, false)
  | 39 => .inr (16, false)
  | 47 => .inr (50, false)
  | 48 => .inr (50, false)
  | 49 => .inr (250, false)
  | 50 => .inr (28, false)
  | 52 => .inr (330, false)
  | _ => .inr (0, false)
def sh (g f : Nat) : Shp := match g with
  | 0 => shT f
  | 1 => shH 1 f
  | 2 => shH 2 f
  | 3 => shH 3 f
  | _ => shM f
def cellsM : List Nat := [0, 1, 2, 3, 4, 5, 6, 7, 9, 10, 11, 12, 13, 14, 16, 17, 18, 19, 29, 31, 33, 35, 38, 39, 47, 48, 49, 50, 52]
def cellsL : List (Nat × Nat) := (List.range 5).map (fun f => (0, f)) ++ ((List.range 21).map (fun f => (1, f)) ++ ((List.range 21).map (fun f => (2, f)) ++ ((List.range 21).map (fun f => (3, f)) ++ cellsM.map (fun f => (4, f)))))
theorem cellsL_nd : cellsL.Nodup := by decide +kernel
def setG (σ : St) (g : Nat) (ρ : Gr) : St := fun g' => if g' = g then ρ else σ g'
def setF (ρ : Gr) (f : Nat) (v : Nat → Int32) : Gr := fun f' => if f' = f then v else ρ f'
def up (ρ : Gr) (f j : Nat) (x : Int32) : Gr := setF ρ f (upd (ρ f) j x)
theorem setG_same {σ : St} {g : Nat} {ρ : Gr} : setG σ g ρ g = ρ := if_pos rfl
theorem setG_ne {σ : St} {g g' : Nat} {ρ : Gr} (h : g' ≠ g) : setG σ g ρ g' = σ g' := if_neg h
theorem setG_self {σ : St} {g : Nat} : setG σ g (σ g) = σ := by
  funext g'
  by_cases h : g' = g
  · subst h; exact setG_same
  · exact setG_ne h
theorem setG_setG {σ : St} {g : Nat} {ρ ρ' : Gr} : setG (setG σ g ρ) g ρ' = setG σ g ρ' := by
  funext g'
  by_cases h : g' = g
  · subst h; rw [setG_same, setG_same]
  · rw [setG_ne h, setG_ne h, setG_ne h]
theorem setF_same {ρ : Gr} {f : Nat} {v : Nat → Int32} : setF ρ f v f = v := if_pos rfl
theorem setF_ne {ρ : Gr} {f f' : Nat} {v : Nat → Int32} (h : f' ≠ f) : setF ρ f v f' = ρ f' := if_neg h
theorem up_same {ρ : Gr} {f j : Nat} {x : Int32} : up ρ f j x f = upd (ρ f) j x := setF_same
theorem up_ne {ρ : Gr} {f f' j : Nat} {x : Int32} (h : f' ≠ f) : up ρ f j x f' = ρ f' := setF_ne h
theorem mkL_get (G : GG) (v : Nat → Int32) : ∀ (L : List (Option (Nat × Nat))) (a k : Nat) (o : Option (Nat × Nat)), L[k]? = some o → (mkL G v a L)[k]? = some (mkV G o (v (a + k)))
  | [], _, _, _, h => by simp at h
  | x :: r, a, 0, o, h => by
    have h' : x = o := by simpa using h
    subst h'
    rfl
  | x :: r, a, k + 1, o, h => by
    have h' : r[k]? = some o := by simpa using h
    have := mkL_get G v r (a + 1) k o h'
    show (mkL G v (a + 1) r)[k]? = _
    rw [this, show a + 1 + k = a + (k + 1) by omega]
theorem mkL_far (G : GG) (v : Nat → Int32) (j : Nat) (x : Int32) : ∀ (L : List (Option (Nat × Nat))) (a : Nat), j < a → mkL G (upd v j x) a L = mkL G v a L
  | [], _, _ => rfl
  | o :: r, a, h => by
    show mkV G o (upd v j x a) :: mkL G (upd v j x) (a + 1) r = mkV G o (v a) :: mkL G v (a + 1) r
    rw [mkL_far G v j x r (a + 1) (by omega), show upd v j x a = v a from if_neg (by omega)]
theorem mkL_set (G : GG) (v : Nat → Int32) (x : Int32) : ∀ (L : List (Option (Nat × Nat))) (a k : Nat), L[k]? = some none → (mkL G v a L).set k (.int x) = mkL G (upd v (a + k) x) a L
  | [], _, _, h => by simp at h
  | o :: r, a, 0, h => by
    have h' : o = none := by simpa using h
    subst h'
    show Value.int x :: mkL G v (a + 1) r = Value.int (upd v (a + 0) x a) :: mkL G (upd v (a + 0) x) (a + 1) r
    rw [mkL_far G v (a + 0) x r (a + 1) (by omega), show upd v (a + 0) x a = x from if_pos rfl]
  | o :: r, a, k + 1, h => by
    have h' : r[k]? = some none := by simpa using h
    show mkV G o (v a) :: (mkL G v (a + 1) r).set k (.int x) = mkV G o (upd v (a + (k + 1)) x a) :: mkL G (upd v (a + (k + 1)) x) (a + 1) r
    rw [mkL_set G v x r (a + 1) k h', show upd v (a + (k + 1)) x a = v a from if_neg (by omega), show a + 1 + k = a + (k + 1) by omega]
def wsL (G : GG) (σ : St) : va_W := cellsL.map (fun q => (aa G q.1 q.2, mkC G (sh q.1 q.2) (σ q.1 q.2)))
def WO (G : GG) (σ : St) (H : Heap) : Prop := va_P G.1 vwCl (wsL G σ) H
def AP (G : GG) : Prop := ∀ q ∈ cellsL, ∀ r ∈ cellsL, aa G q.1 q.2 = aa G r.1 r.2 → q = r
def AA (G : GG) : Nat → Prop := fun a => ∃ q ∈ cellsL, a = aa G q.1 q.2
theorem wsL_get {G : GG} {σ : St} {k : Nat} {q : Nat × Nat} (h : cellsL[k]? = some q) : (wsL G σ)[k]? = some (aa G q.1 q.2, mkC G (sh q.1 q.2) (σ q.1 q.2)) := by
  show (cellsL.map _)[k]? = _
  rw [List.getElem?_map, h]
  rfl
theorem wsL_inv {G : GG} {σ : St} {k : Nat} {z : Nat × va_E} (h : (wsL G σ)[k]? = some z) : ∃ q, cellsL[k]? = some q ∧ z = (aa G q.1 q.2, mkC G (sh q.1 q.2) (σ q.1 q.2)) := by
  have h' : (cellsL.map (fun q => (aa G q.1 q.2, mkC G (sh q.1 q.2) (σ q.1 q.2))))[k]? = some z := h
  rw [List.getElem?_map] at h'
  cases hq : cellsL[k]? with
  | none => rw [hq] at h'; cases h'
  | some q => rw [hq] at h'; exact ⟨q, rfl, (Option.some.inj h').symm⟩
theorem cellsL_inj {i j : Nat} {q : Nat × Nat} (h : cellsL[i]? = some q) (h2 : cellsL[j]? = some q) : i = j := by
  have hi : i < cellsL.length := (List.getElem?_eq_some_iff.mp h).1
  exact (List.getElem?_inj hi cellsL_nd).mp (h.trans h2.symm)
theorem wsL_D {G : GG} (σ : St) (h : AP G) : va_D (AA G) (wsL G σ) := by
  refine ⟨fun i j p q hi hj e => ?_, fun k q hk => ?_⟩
  · obtain ⟨u, hu, rfl⟩ := wsL_inv hi
    obtain ⟨v, hv, rfl⟩ := wsL_inv hj
    have := h u (List.mem_of_getElem? hu) v (List.mem_of_getElem? hv) e
    subst this
    exact cellsL_inj hu hv
  · obtain ⟨u, hu, rfl⟩ := wsL_inv hk
    exact ⟨u, List.mem_of_getElem? hu, rfl⟩
theorem wsL_set {G : GG} {σ : St} {k g f : Nat} {ρ : Gr} {v : Nat → Int32} {e : va_E} (h : cellsL[k]? = some (g, f)) (he : e = mkC G (sh g f) v) : (wsL G (setG σ g ρ)).set k (aa G g f, e) = wsL G (setG σ g (setF ρ f v)) := by
  subst he
  apply List.ext_getElem?
  intro i
  rw [List.getElem?_set]
  have hk : k < (wsL G (setG σ g ρ)).length := by
    rw [show (wsL G (setG σ g ρ)).length = cellsL.length from List.length_map _]
    exact (List.getElem?_eq_some_iff.mp h).1
  by_cases hki : k = i
  · subst hki
    rw [if_pos rfl, if_pos hk, wsL_get h]
    show some _ = some (aa G g f, mkC G (sh g f) (setG σ g (setF ρ f v) g f))
    rw [setG_same, setF_same]
  · rw [if_neg hki]
    cases hi : cellsL[i]? with
    | none =>
      have e1 : (wsL G (setG σ g ρ))[i]? = none := by show (cellsL.map _)[i]? = _; rw [List.getElem?_map, hi]; rfl
      have e2 : (wsL G (setG σ g (setF ρ f v)))[i]? = none := by show (cellsL.map _)[i]? = _; rw [List.getElem?_map, hi]; rfl
      rw [e1, e2]
    | some q =>
      rw [wsL_get hi, wsL_get hi]
      have hne : q ≠ (g, f) := fun e => hki (cellsL_inj h (by rw [← e]; exact hi))
      have : setG σ g (setF ρ f v) q.1 q.2 = setG σ g ρ q.1 q.2 := by
        by_cases h1 : q.1 = g
        · rw [h1, setG_same, setG_same]
          exact setF_ne (fun h2 => hne (by rw [← h1, ← h2]))
        · rw [setG_ne h1, setG_ne h1]
      rw [this]
def Wd (G : GG) (s : State) (σ : St) (H : Heap) (locs : List Loc) : Prop := WO G σ H ∧ va_S (AA G) s.heap H locs
abbrev Wh (G : GG) (s : State) (σ : St) (g : Nat) (ρ : Gr) (H : Heap) (locs : List Loc) : Prop := Wd G s (setG σ g ρ) H locs
theorem Wd.at {G : GG} {s : State} {σ : St} {H : Heap} {locs : List Loc} (w : Wd G s σ H locs) (g : Nat) : Wh G s σ g (σ g) H locs := by
  show Wd G s (setG σ g (σ g)) H locs
  rw [setG_self]
  exact w
def Pr (G : GG) (U : State) : Prop := va_K G.1 vwCl [(G.2.1, .int), (G.2.2.1, .boolean)] U ∧ (∀ w ∈ nestW, va_Nw w U) ∧ AP G
def Cx (p : Program) (m : MethodId) (c : Code) (cc : ByteArray) (nL : Nat) (s : State) (args : Array Value) (own : String) (G : GG) : Prop := CallFix p m c cc nL s args tbl own ∧ Pr G s
def rmv (fr lo : Nat) : Room := { frames := fr, cells := 0, slots := 0, locals := lo }
def PreM (G : GG) (vs : List Value) (σ : St) : Array Value → State → Prop := va_Pc vs (fun U => Pr G U ∧ WO G σ U.heap)
theorem nestW_tab : ∀ w ∈ nestW, w.onTables = true := by decide +kernel
theorem Pr.warm {G : GG} {s U : State} (hW : s.WarmedH U.vm) (h : Pr G s) : Pr G U := by
  refine ⟨va_K.moved hW.alike h.1, fun w hw => ?_, h.2.2⟩
  have hz := h.2.1 w hw
  simp only [nestW, List.mem_cons, List.not_mem_nil, or_false] at hw
  rcases hw with rfl | rfl | rfl | rfl | rfl | rfl | rfl | rfl | rfl | rfl | rfl | rfl | rfl | rfl <;> exact va_Nw.warmM hW hz
theorem PreM.blind {G : GG} {vs : List Value} {σ : St} : FrameBlind (PreM G vs σ) := by
  intro a U g mk q
  obtain ⟨q0, ⟨qK, qN, qA⟩, qW⟩ := q
  exact ⟨q0, ⟨va_K.moved (u := U) (U := U.calling g mk a) (Vm.Alike.refl U.vm) qK, fun w hw => va_Nw.same (u := U) (U := U.calling g mk a) (nestW_tab w hw) rfl (qN w hw), qA⟩, qW⟩
section Rows
variable {p : Program} {l : Launch} {e : Env} {R : Room} {s : State} {m : MethodId} {args : Array Value} {below : List Frame} {meth : Method} {c : Code} {H : Heap} {locs : List Loc} {cells slots : Nat} {Q : State → Prop} {cc : ByteArray} {nL : Nat} {own : String} {pc : Nat} {ls : Array Slot} {rest : List Value} {G : GG} {σ : St} {g : Nat} {ρ : Gr}
theorem r_gv (X : Cx p m c cc nL s args own G) (w : Wh G s σ g ρ H locs) {f ci k N idx : Nat} {L : List (Option (Nat × Nat))} {C : String} {T : u_T} {o : Option (Nat × Nat)} (hq : (g, f) ∈ cellsL) (hsh : sh g f = .inl (ci, L)) (hl : L[k]? = some o) (hcl : vwCl[ci]? = some (C, T, N)) (hk : k < N) (hin : ∀ w ∈ u_ws C T N, w ∈ tbl) (hT : (T k).1 = C) (hlk : Cond.fieldLink own idx C (T k).2.1 (T k).2.2.1 ∈ tbl) (hd : decode cc pc = .ok (.getfield idx, 3))
    (kk : W p l e R s m args below meth c H locs cells slots Q (F0 m (pc + 3) ls (mkV G o (ρ f k) :: rest))) : W p l e R s m args below meth c H locs cells slots Q (F0 m pc ls (.ref (aa G g f) :: rest)) := by
  obtain ⟨k0, h1⟩ := List.getElem?_of_mem hq
  have h2 := wsL_get (G := G) (σ := setG σ g ρ) h1
  simp only [hsh, setG_same] at h2
  refine va_get X.1.1 X.1.2.1 X.1.2.2.2.2 hin X.1.2.2.2.1 X.2.1 w.1 k0 h2 hcl k hk (X.1.2.2.2.2 _ hlk) (fun x h => by rw [hT] at h; exact h) (v := mkV G o (ρ f k)) ?_ hd kk
  have := mkL_get G (ρ f) L 0 k o hl
  rw [Nat.zero_add] at this
  exact this
theorem r_pi (X : Cx p m c cc nL s args own G) (w : Wh G s σ g ρ H locs) {f ci k N idx : Nat} {L : List (Option (Nat × Nat))} {C : String} {T : u_T} {ty : FieldType} (hq : (g, f) ∈ cellsL) (hsh : sh g f = .inl (ci, L)) (hl : L[k]? = some none) (hcl : vwCl[ci]? = some (C, T, N)) (hk : k < N) (hin : ∀ w ∈ u_ws C T N, w ∈ tbl) (ty0 : Nat → FieldType) (hty : ∀ k, k < N → parseFieldDescriptor (T k).2.2.1 = some (ty0 k)) (hnm : ∀ a, a < N → ∀ b, b < N → a ≠ b → (T a).2.1 ≠ (T b).2.1) (hT : (T k).1 = C) (hlk : Cond.fieldLink own idx C (T k).2.1 (T k).2.2.1 ∈ tbl) (hfin : (T k).2.2.2 = false) (hdt : parseFieldDescriptor (T k).2.2.1 = some ty) {x : Int32} (hn : narrow ty (.int x) = .int x) (hf : fits ty (.int x) = true) (hd : decode cc pc = .ok (.putfield idx, 3))
    (kk : ∀ (H1 : Heap) (locs1 : List Loc), Wh G s σ g (up ρ f k x) H1 locs1 → W p l e R s m args below meth c H1 locs1 cells slots Q (F0 m (pc + 3) ls rest)) : W p l e R s m args below meth c H locs cells slots Q (F0 m pc ls (.int x :: .ref (aa G g f) :: rest)) := by
  obtain ⟨k0, h1⟩ := List.getElem?_of_mem hq
  have h2 := wsL_get (G := G) (σ := setG σ g ρ) h1
  simp only [hsh, setG_same] at h2
  have h3 := mkL_get G (ρ f) L 0 k none hl
  refine va_put X.1.1 X.1.2.1 X.1.2.2.2.2 hin ty0 hty hnm X.1.2.2.2.1 X.2.1 w.1 (wsL_D _ X.2.2.2) w.2 k0 h2 hcl k hk (X.1.2.2.2.2 _ hlk) (fun x h => by rw [hT] at h; exact h) hfin hdt hn hf (List.getElem?_eq_some_iff.mp h3).1 hd (fun H1 locs1 hP _ hS => ?_)
  refine kk H1 locs1 ⟨?_, hS⟩
  have h4 := mkL_set G (ρ f) x L 0 k hl
  rw [Nat.zero_add] at h4
  rw [h4, wsL_set (v := upd (ρ f) k x) h1 (by rw [hsh]; rfl)] at hP
  exact hP
theorem r_ia (X : Cx p m c cc nL s args own G) (w : Wh G s σ g ρ H locs) {f n : Nat} (hq : (g, f) ∈ cellsL) (hsh : sh g f = .inr (n, false)) {i : Int32} (hi : vp_in i n) (hd : decode cc pc = .ok (.iaload, 1))
    (kk : W p l e R s m args below meth c H locs cells slots Q (F0 m (pc + 1) ls (.int (ρ f i.toNatClampNeg) :: rest))) : W p l e R s m args below meth c H locs cells slots Q (F0 m pc ls (.int i :: .ref (aa G g f) :: rest)) := by
  obtain ⟨k0, h1⟩ := List.getElem?_of_mem hq
  have h2 := wsL_get (G := G) (σ := setG σ g ρ) h1
  simp only [hsh, setG_same] at h2
  exact va_iald X.1.1 X.1.2.1 X.2.1 w.1 k0 0 h2 rfl hi hd kk
theorem r_za (X : Cx p m c cc nL s args own G) (w : Wh G s σ g ρ H locs) {f n : Nat} (hq : (g, f) ∈ cellsL) (hsh : sh g f = .inr (n, true)) {i : Int32} (hi : vp_in i n) (hd : decode cc pc = .ok (.baload, 1))
    (kk : W p l e R s m args below meth c H locs cells slots Q (F0 m (pc + 1) ls (.int (ρ f i.toNatClampNeg) :: rest))) : W p l e R s m args below meth c H locs cells slots Q (F0 m pc ls (.int i :: .ref (aa G g f) :: rest)) := by
  obtain ⟨k0, h1⟩ := List.getElem?_of_mem hq
  have h2 := wsL_get (G := G) (σ := setG σ g ρ) h1
  simp only [hsh, setG_same] at h2
  exact va_zald X.1.1 X.1.2.1 X.2.1 w.1 k0 1 h2 rfl hi hd kk
theorem r_is (X : Cx p m c cc nL s args own G) (w : Wh G s σ g ρ H locs) {f n : Nat} (hq : (g, f) ∈ cellsL) (hsh : sh g f = .inr (n, false)) {i x : Int32} (hi : vp_in i n) (hd : decode cc pc = .ok (.iastore, 1))
    (kk : ∀ (H1 : Heap) (locs1 : List Loc), Wh G s σ g (up ρ f i.toNatClampNeg x) H1 locs1 → W p l e R s m args below meth c H1 locs1 cells slots Q (F0 m (pc + 1) ls rest)) : W p l e R s m args below meth c H locs cells slots Q (F0 m pc ls (.int x :: .int i :: .ref (aa G g f) :: rest)) := by
  obtain ⟨k0, h1⟩ := List.getElem?_of_mem hq
  have h2 := wsL_get (G := G) (σ := setG σ g ρ) h1
  simp only [hsh, setG_same] at h2
  refine va_iast X.1.1 X.1.2.1 X.2.1 w.1 (wsL_D _ X.2.2.2) w.2 k0 0 h2 rfl hi hd (fun H1 locs1 hP _ hS => kk H1 locs1 ⟨?_, hS⟩)
  rw [wsL_set (v := upd (ρ f) i.toNatClampNeg x) h1 (by rw [hsh]; rfl)] at hP
  exact hP
theorem r_zs (X : Cx p m c cc nL s args own G) (w : Wh G s σ g ρ H locs) {f n : Nat} (hq : (g, f) ∈ cellsL) (hsh : sh g f = .inr (n, true)) {i x : Int32} (hi : vp_in i n) (hx : vp_nar .boolean x = x) (hd : decode cc pc = .ok (.bastore, 1))
    (kk : ∀ (H1 : Heap) (locs1 : List Loc), Wh G s σ g (up ρ f i.toNatClampNeg x) H1 locs1 → W p l e R s m args below meth c H1 locs1 cells slots Q (F0 m (pc + 1) ls rest)) : W p l e R s m args below meth c H locs cells slots Q (F0 m pc ls (.int x :: .int i :: .ref (aa G g f) :: rest)) := by
  obtain ⟨k0, h1⟩ := List.getElem?_of_mem hq
  have h2 := wsL_get (G := G) (σ := setG σ g ρ) h1
  simp only [hsh, setG_same] at h2
  refine va_zast X.1.1 X.1.2.1 X.2.1 w.1 (wsL_D _ X.2.2.2) w.2 k0 1 h2 rfl hi hd (fun H1 locs1 hP _ hS => kk H1 locs1 ⟨?_, hS⟩)
  rw [hx, wsL_set (v := upd (ρ f) i.toNatClampNeg x) h1 (by rw [hsh]; rfl)] at hP
  exact hP
theorem r_al (X : Cx p m c cc nL s args own G) (w : Wh G s σ g ρ H locs) {f n : Nat} (hq : (g, f) ∈ cellsL) (hsh : sh g f = .inr (n, false)) {v : Int32} (hv : Int32.ofNat n = v) (hd : decode cc pc = .ok (.arraylength, 1))
    (kk : W p l e R s m args below meth c H locs cells slots Q (F0 m (pc + 1) ls (.int v :: rest))) : W p l e R s m args below meth c H locs cells slots Q (F0 m pc ls (.ref (aa G g f) :: rest)) := by
  obtain ⟨k0, h1⟩ := List.getElem?_of_mem hq
  have h2 := wsL_get (G := G) (σ := setG σ g ρ) h1
  simp only [hsh, setG_same] at h2
  exact va_alen X.1.1 X.1.2.1 X.2.1 w.1 k0 0 h2 (ty := .int) rfl hv hd kk
theorem r_cp (X : Cx p m c cc nL s args own G) (w : Wh G s σ g ρ H locs) (hls : ls.size = nL) {g0 f0 f n0 n1 idx : Nat} {src : Nat → Int32} (hq0 : (g0, f0) ∈ cellsL) (hsh0 : sh g0 f0 = .inr (n0, false)) (hsrc : setG σ g ρ g0 f0 = src) (hq : (g, f) ∈ cellsL) (hsh : sh g f = .inr (n1, false)) (hlk : Cond.methodLink own idx arraycopyName ∈ tbl) {n : Int32} (h3 : ¬ n < 0) (h4 : n.toNatClampNeg ≤ n0) (h5 : n.toNatClampNeg ≤ n1)
    (hfr : 1 ≤ R.frames) (hlo : (rest.map fun v => v.category).sum + (nativeFrameWords "java/lang/System" "arraycopy" 5 + 11) ≤ R.locals) (hd : decode cc pc = .ok (.invokestatic idx, 3))
    (kk : ∀ (H1 : Heap) (locs1 : List Loc), Wh G s σ g (setF ρ f (va_cpy src (ρ f) 0 0 n.toNatClampNeg)) H1 locs1 → W p l e R s m args below meth c H1 locs1 cells slots Q (F0 m (pc + 3) ls rest)) : W p l e R s m args below meth c H locs cells slots Q (F0 m pc ls (.int n :: .int 0 :: .ref (aa G g f) :: .int 0 :: .ref (aa G g0 f0) :: rest)) := by
  obtain ⟨k0, h1⟩ := List.getElem?_of_mem hq0
  have h2 := wsL_get (G := G) (σ := setG σ g ρ) h1
  simp only [hsh0, hsrc] at h2
  obtain ⟨k1, h1'⟩ := List.getElem?_of_mem hq
  have h2' := wsL_get (G := G) (σ := setG σ g ρ) h1'
  simp only [hsh, setG_same] at h2'
  have z0 : (0 : Int32).toNatClampNeg = 0 := by decide +kernel
  refine va_copyi X.1.1 X.1.2.1 (by rw [X.1.2.2.1, hls]) X.1.2.2.2.1 (X.1.2.2.2.2 _ hlk) (X.1.2.2.2.2 _ kw292) (X.1.2.2.2.2 _ kw291) (X.1.2.2.2.2 _ kw9) X.2.1 w.1 (wsL_D _ X.2.2.2) w.2 k0 k1 0 0 (ty := .int) h2 h2' rfl rfl rfl (by decide +kernel) (by decide +kernel) h3 (by rw [z0, Nat.zero_add]; exact h4) (by rw [z0, Nat.zero_add]; exact h5) (fun _ _ => rfl) hfr hlo hd (fun H1 locs1 hP _ hS => kk H1 locs1 ⟨?_, hS⟩)
  rw [z0, wsL_set (v := va_cpy src (ρ f) 0 0 n.toNatClampNeg) h1' (by rw [hsh]; rfl)] at hP
  exact hP
end Rows
/-- what the tables say of an instance method -/
def CM (y : MethodName) (C : String) (bytes : ByteArray) (maxL n : Nat) (ret : Option FieldType) : Prop := Cond.instanceMethod y ∈ tbl ∧ Cond.selects C y y ∈ tbl ∧ Cond.initialized C ∈ tbl ∧ Cond.code y bytes maxL ret ∈ tbl ∧ (y.cls = C ∧ y.cls ≠ "java/lang/invoke/MethodHandle" ∧ y.cls ≠ "java/lang/invoke/VarHandle" ∧ (parseMethodDescriptor y.desc).map (fun d => d.parameters.length) = some n)
/-- and of a static one -/
def CS (y : MethodName) (C : String) (bytes : ByteArray) (maxL n : Nat) (ret : Option FieldType) : Prop := Cond.static y ∈ tbl ∧ Cond.initialized C ∈ tbl ∧ Cond.code y bytes maxL ret ∈ tbl ∧ (y.cls = C ∧ y.cls ≠ "java/lang/invoke/MethodHandle" ∧ y.cls ≠ "java/lang/invoke/VarHandle" ∧ (parseMethodDescriptor y.desc).map (fun d => d.parameters.length) = some n)
theorem goodC {w : Cond} (h : w ∈ tbl) : GoodIn tbl (w :: tbl) := fun v hv => by
  have : v ∈ tbl := (List.mem_cons.mp hv).elim (fun e => e ▸ h) id
  exact ⟨this, good_of_word (tbl_ok v this)⟩
section Calls
variable {p : Program} {l : Launch} {e : Env} {R : Room} {s : State} {m : MethodId} {args : Array Value} {below : List Frame} {meth : Method} {c : Code} {H : Heap} {locs : List Loc} {cells slots : Nat} {Q : State → Prop} {cc : ByteArray} {nL : Nat} {own : String} {pc : Nat} {ls : Array Slot} {rest st As : List Value} {G : GG} {σ σ' : St} {y : MethodName} {C : String} {bytes : ByteArray} {maxL n fr lo idx : Nat} {ret : Option FieldType} {Qc : Array Value → State → Outcome → State → Prop} {host : String}
theorem rr_v {g f ci N : Nat} {L : List (Option (Nat × Nat))} {T : u_T} (X : Cx p m c cc nL s args own G) (w : Wd G s σ H locs) (cm : CM y C bytes maxL n ret) (hlk : Cond.methodLink own idx y ∈ tbl) (M : Met l y (Cond.code y bytes maxL ret :: tbl) (rmv fr lo) (PreM G (.ref (aa G g f) :: As) σ) Qc 0 0 (AA G)) (hq : (g, f) ∈ cellsL) (hsh : sh g f = .inl (ci, L)) (hcl : vwCl[ci]? = some (C, T, N)) (hR : fr + 1 ≤ R.frames ∧ 8 + (maxL + 11) + lo ≤ R.locals) (hn : As.length = n) (hls : ls.size = nL) (hst : st = As.reverse ++ .ref (aa G g f) :: rest) (hW : (rest.map fun v => v.category).sum ≤ 8) (hd : decode cc pc = .ok (.invokevirtual idx, 3)) (hc : cells ≤ R.cells ∧ slots ≤ R.slots) :
    va_Run p l e R s m args below meth c H locs cells slots 0 0 (F0 m pc ls st) rest (Qc (Value.ref (aa G g f) :: As).toArray) (AA G) := by
  obtain ⟨c1, c2, c3, c4, c5, c6⟩ := cm
  obtain ⟨k0, h1⟩ := List.getElem?_of_mem hq
  have h2 := wsL_get (G := G) (σ := σ) h1
  simp only [hsh] at h2
  refine va_runV X.1 M ⟨callB_of n X.1.2.2.2.2 (goodC c4) rfl rfl rfl (by rw [c5]; exact X.1.2.2.2.2 _ c3) (X.1.2.2.2.2 _ hlk) c6 hR, X.1.2.2.2.2 _ c1, X.1.2.2.2.2 _ c2⟩ ⟨PreM.blind, ?_, fun U hU hW => ⟨rfl, X.2.warm hW, by rw [hU]; exact w.1⟩⟩ rfl hn hls hst (lv_room hW) hd hc
  exact va_recv X.2.1 w.1 hcl h2
theorem rr_s (X : Cx p m c cc nL s args own G) (w : Wd G s σ H locs) (cm : CS y C bytes maxL n ret) (hlk : Cond.methodLink own idx y ∈ tbl) (M : Met l y (Cond.code y bytes maxL ret :: tbl) (rmv fr lo) (PreM G As σ) Qc 0 0 (AA G)) (hR : fr + 1 ≤ R.frames ∧ 8 + (maxL + 11) + lo ≤ R.locals) (hn : As.length = n) (hls : ls.size = nL) (hst : st = As.reverse ++ rest) (hW : (rest.map fun v => v.category).sum ≤ 8) (hd : decode cc pc = .ok (.invokestatic idx, 3)) (hc : cells ≤ R.cells ∧ slots ≤ R.slots) :
    va_Run p l e R s m args below meth c H locs cells slots 0 0 (F0 m pc ls st) rest (Qc As.toArray) (AA G) := by
  obtain ⟨c1, c3, c4, c5, c6⟩ := cm
  exact va_runS X.1 M ⟨callB_of n X.1.2.2.2.2 (goodC c4) rfl rfl rfl (by rw [c5]; exact X.1.2.2.2.2 _ c3) (X.1.2.2.2.2 _ hlk) c6 hR, X.1.2.2.2.2 _ c1⟩ ⟨PreM.blind, fun U hU hW => ⟨rfl, X.2.warm hW, by rw [hU]; exact w.1⟩⟩ rfl hn hls hst (lv_room hW) hd hc
theorem rr_n (X : Cx p m c cc nL s args own G) (w : Wd G s σ H locs) (cm : CS y C bytes maxL n ret) (hlk : Cond.methodLinkNest own idx y host ∈ nestW) (M : Met l y (Cond.code y bytes maxL ret :: tbl) (rmv fr lo) (PreM G As σ) Qc 0 0 (AA G)) (hR : fr + 1 ≤ R.frames ∧ 8 + (maxL + 11) + lo ≤ R.locals) (hn : As.length = n) (hls : ls.size = nL) (hst : st = As.reverse ++ rest) (hW : (rest.map fun v => v.category).sum ≤ 8) (hd : decode cc pc = .ok (.invokestatic idx, 3)) (hc : cells ≤ R.cells ∧ slots ≤ R.slots) :
    va_Run p l e R s m args below meth c H locs cells slots 0 0 (F0 m pc ls st) rest (Qc As.toArray) (AA G) := by
  obtain ⟨c1, c3, c4, c5, c6⟩ := cm
  exact va_runSN X.1 M ⟨va_cnB n X.1.2.2.2.2 (goodC c4) rfl rfl rfl (X.2.2.1 _ hlk) (by rw [c5]; exact X.1.2.2.2.2 _ c3) c6 hR, X.1.2.2.2.2 _ c1, trivial⟩ ⟨PreM.blind, fun U hU hW => ⟨rfl, X.2.warm hW, by rw [hU]; exact w.1⟩⟩ rfl hn hls hst (lv_room hW) hd hc
def Qi (G : GG) (r : Int32) (σ' : St) : Array Value → State → Outcome → State → Prop := va_Qi (fun a u => a = r ∧ u = σ') (fun u t => WO G u t.heap) (AA G)
def Ql (G : GG) (r : Int64) (σ' : St) : Array Value → State → Outcome → State → Prop := va_Ql (fun a u => a = r ∧ u = σ') (fun u t => WO G u t.heap) (AA G)
def Qv (G : GG) (σ' : St) : Array Value → State → Outcome → State → Prop := va_Qv (fun u => u = σ') (fun u t => WO G u t.heap) (AA G)
def Qr (G : GG) (r : Nat) (σ' : St) : Array Value → State → Outcome → State → Prop := va_Qr (fun u => u = σ') (fun u a t => a = r ∧ WO G u t.heap) (AA G)
theorem k_i {r : Int32} {a : Array Value} (hr : va_Run p l e R s m args below meth c H locs cells slots 0 0 (F0 m pc ls st) rest (Qi G r σ' a) (AA G)) (w : Wd G s σ H locs)
    (kk : ∀ (H1 : Heap) (locs1 : List Loc), Wd G s σ' H1 locs1 → W p l e R s m args below meth c H1 locs1 cells slots Q (F0 m (pc + 3) ls (.int r :: rest))) : W p l e R s m args below meth c H locs cells slots Q (F0 m pc ls st) := by
  refine va_calli hr w.2 (fun q _ h => h) (fun q h => h) (fun r1 u t H1 locs1 ht _ hp hB _ _ hS => ?_)
  obtain ⟨rfl, rfl⟩ := hp
  exact kk H1 locs1 ⟨by rw [← ht]; exact hB, hS⟩
theorem k_l {r : Int64} {a : Array Value} (hr : va_Run p l e R s m args below meth c H locs cells slots 0 0 (F0 m pc ls st) rest (Ql G r σ' a) (AA G)) (w : Wd G s σ H locs)
    (kk : ∀ (H1 : Heap) (locs1 : List Loc), Wd G s σ' H1 locs1 → W p l e R s m args below meth c H1 locs1 cells slots Q (F0 m (pc + 3) ls (.long r :: rest))) : W p l e R s m args below meth c H locs cells slots Q (F0 m pc ls st) := by
  refine va_calll hr w.2 (fun q _ h => h) (fun q h => h) (fun r1 u t H1 locs1 ht _ hp hB _ _ hS => ?_)
  obtain ⟨rfl, rfl⟩ := hp
  exact kk H1 locs1 ⟨by rw [← ht]; exact hB, hS⟩
theorem k_v {a : Array Value} (hr : va_Run p l e R s m args below meth c H locs cells slots 0 0 (F0 m pc ls st) rest (Qv G σ' a) (AA G)) (w : Wd G s σ H locs)
    (kk : ∀ (H1 : Heap) (locs1 : List Loc), Wd G s σ' H1 locs1 → W p l e R s m args below meth c H1 locs1 cells slots Q (F0 m (pc + 3) ls rest)) : W p l e R s m args below meth c H locs cells slots Q (F0 m pc ls st) := by
  refine va_callv hr w.2 (fun q _ h => h) (fun q h => h) (fun u t H1 locs1 ht _ hp hB _ _ hS => ?_)
  subst hp
  exact kk H1 locs1 ⟨by rw [← ht]; exact hB, hS⟩
theorem k_r {r : Nat} {a : Array Value} (hr : va_Run p l e R s m args below meth c H locs cells slots 0 0 (F0 m pc ls st) rest (Qr G r σ' a) (AA G)) (w : Wd G s σ H locs)
    (kk : ∀ (H1 : Heap) (locs1 : List Loc), Wd G s σ' H1 locs1 → W p l e R s m args below meth c H1 locs1 cells slots Q (F0 m (pc + 3) ls (.ref r :: rest))) : W p l e R s m args below meth c H locs cells slots Q (F0 m pc ls st) := by
  refine va_callr hr w.2 (fun q _ h => h) (fun q h => h) (fun u ra t H1 locs1 ht _ hp hB _ _ hS => ?_)
  subst hp
  obtain ⟨rfl, hB⟩ := hB
  exact kk H1 locs1 ⟨by rw [← ht]; exact hB, hS⟩
theorem t_i (X : Cx p m c cc nL s args own G) (w : Wd G s σ H locs) (hr : meth.sig.returnType = some .int) (hlk : meth.locks = false) {v r : Int32} (hd : decode cc pc = .ok (.ireturn, 1)) (e1 : v = r) (e2 : σ = σ') : W p l e R s m args below meth c H locs cells slots (MQ below (Qi G r σ') args s cells slots (AA G)) (F0 m pc ls [.int v]) :=
  W.iret (v := v) X.1.1 X.1.2.1 hr (fun t ht _ => ⟨⟨v, σ, rfl, ⟨e1, e2⟩, by show WO G σ t.heap; rw [ht]; exact w.1⟩, w.2.F ht⟩) w.2.2.2 hd hlk
theorem t_z (X : Cx p m c cc nL s args own G) (w : Wd G s σ H locs) (hr : meth.sig.returnType = some .boolean) (hlk : meth.locks = false) {v r : Int32} (hn : narrow .boolean (.int v) = .int v) (hd : decode cc pc = .ok (.ireturn, 1)) (e1 : v = r) (e2 : σ = σ') : W p l e R s m args below meth c H locs cells slots (MQ below (Qi G r σ') args s cells slots (AA G)) (F0 m pc ls [.int v]) :=
  W.zret (v := v) X.1.1 X.1.2.1 hr hn (fun t ht _ => ⟨⟨v, σ, rfl, ⟨e1, e2⟩, by show WO G σ t.heap; rw [ht]; exact w.1⟩, w.2.F ht⟩) w.2.2.2 hd hlk
theorem t_l (X : Cx p m c cc nL s args own G) (w : Wd G s σ H locs) (hr : meth.sig.returnType = some .long) (hlk : meth.locks = false) {v r : Int64} (hd : decode cc pc = .ok (.lreturn, 1)) (e1 : v = r) (e2 : σ = σ') : W p l e R s m args below meth c H locs cells slots (MQ below (Ql G r σ') args s cells slots (AA G)) (F0 m pc ls [.long v]) :=
  W.lret (v := v) X.1.1 X.1.2.1 hr (fun t ht _ => ⟨⟨v, σ, rfl, ⟨e1, e2⟩, by show WO G σ t.heap; rw [ht]; exact w.1⟩, w.2.F ht⟩) w.2.2.2 hd hlk
theorem t_v (X : Cx p m c cc nL s args own G) (w : Wd G s σ H locs) (hr : meth.sig.returnType = none) (hlk : meth.locks = false) (hd : decode cc pc = .ok (.return_, 1)) (e2 : σ = σ') : W p l e R s m args below meth c H locs cells slots (MQ below (Qv G σ') args s cells slots (AA G)) (F0 m pc ls []) :=
  W.vret X.1.1 X.1.2.1 hr (fun t ht _ => ⟨⟨σ, rfl, e2, by show WO G σ t.heap; rw [ht]; exact w.1⟩, w.2.F ht⟩) w.2.2.2 hd hlk
end Calls
section Entry
variable {l : Launch} {G : GG} {y : MethodName} {bytes : ByteArray} {maxL fr lo : Nat} {ret : Option FieldType} {vs : List Value} {σ : St} {Qc : Array Value → State → Outcome → State → Prop}
def MM (l : Launch) (G : GG) (y : MethodName) (bytes : ByteArray) (maxL fr lo : Nat) (ret : Option FieldType) (vs : List Value) (σ : St) (Qc : Array Value → State → Outcome → State → Prop) : Prop := Met l y (Cond.code y bytes maxL ret :: tbl) (rmv fr lo) (PreM G vs σ) Qc 0 0 (AA G)
theorem MM.of (hpl : plainName y.cls = true) (hlen : (lg_sl vs).length ≤ maxL)
    (body : ∀ (p : Program) (e : Env) (s : State) (m : MethodId) (below : List Frame) (meth : Method) (c : Code) (ls : Array Slot), Cx p m c bytes maxL s vs.toArray y.cls G → meth.sig.returnType = ret → meth.locks = false → Wd G s σ s.heap [] → lv_has ls maxL (lv_args 0 vs) →
      W p l e (rmv fr lo) s m vs.toArray below meth c s.heap [] 0 0 (MQ below Qc vs.toArray s 0 0 (AA G)) (F0 m 0 ls [])) : MM l G y bytes maxL fr lo ret vs σ Qc := by
  refine Met.ofW (cc := bytes) (maxL := maxL) (ret := ret) hpl rfl ?_
  intro p e s m args below meth c s₁ B hml hv
  obtain ⟨rfl, hPr, hW⟩ := hv
  have hts := atoms_spec (ws := Cond.code y bytes maxL ret :: tbl) B.pre
  have hl := lv_entry vs (n := maxL) hlen
  rw [lg_entry_eq]
  exact body p e s m below meth c _ ⟨⟨B.exec, B.bytes, hml, findClass_of_methodNamed B.named, fun w h => hts w (List.mem_cons_of_mem _ h)⟩, hPr⟩ B.returns B.notSynchronized ⟨hW, va_S.rf⟩ hl
end Entry
end
section
def HG (g : Nat) : Prop := g = 1 ∨ g = 2 ∨ g = 3
theorem HG.in {g f : Nat} (h : HG g) (hf : f < 21) : (g, f) ∈ cellsL := by
  have hm : ∀ z : Nat, (z, f) ∈ (List.range 21).map (fun f => (z, f)) := fun z => List.mem_map.mpr ⟨f, List.mem_range.mpr hf, rfl⟩
  rcases h with rfl | rfl | rfl
  · exact List.mem_append_right _ (List.mem_append_left _ (hm 1))
  · exact List.mem_append_right _ (List.mem_append_right _ (List.mem_append_left _ (hm 2)))
  · exact List.mem_append_right _ (List.mem_append_right _ (List.mem_append_right _ (List.mem_append_left _ (hm 3))))
theorem HG.sh {g f : Nat} (h : HG g) : sh g f = shH g f := by rcases h with rfl | rfl | rfl <;> rfl
theorem HG1 : HG 1 := Or.inl rfl
theorem HG2 : HG 2 := Or.inr (Or.inl rfl)
theorem HG3 : HG 3 := Or.inr (Or.inr rfl)
def isB (x : Int32) : Prop := x = 0 ∨ x = 1
theorem isB0 : isB 0 := Or.inl rfl
theorem isB1 : isB 1 := Or.inr rfl
theorem isB.n {x : Int32} (h : isB x) : narrow .boolean (.int x) = .int x := by rcases h with rfl | rfl <;> decide +kernel
theorem isB.f {x : Int32} (h : isB x) : fits .boolean (.int x) = true := by rcases h with rfl | rfl <;> decide +kernel
theorem isB.v {x : Int32} (h : isB x) : vp_nar .boolean x = x := by rcases h with rfl | rfl <;> decide +kernel
theorem isB.ite {p : Prop} [Decidable p] {x y : Int32} (hx : isB x) (hy : isB y) : isB (if p then x else y) := by by_cases h : p <;> simp [h, hx, hy]
theorem m0_0 : (0, 0) ∈ cellsL := by decide +kernel
theorem m0_1 : (0, 1) ∈ cellsL := by decide +kernel
theorem m0_2 : (0, 2) ∈ cellsL := by decide +kernel
theorem m0_3 : (0, 3) ∈ cellsL := by decide +kernel
theorem m0_4 : (0, 4) ∈ cellsL := by decide +kernel
theorem m4_0 : (4, 0) ∈ cellsL := by decide +kernel
theorem m4_1 : (4, 1) ∈ cellsL := by decide +kernel
theorem m4_2 : (4, 2) ∈ cellsL := by decide +kernel
theorem m4_3 : (4, 3) ∈ cellsL := by decide +kernel
theorem m4_4 : (4, 4) ∈ cellsL := by decide +kernel
theorem m4_5 : (4, 5) ∈ cellsL := by decide +kernel
theorem m4_6 : (4, 6) ∈ cellsL := by decide +kernel
theorem m4_7 : (4, 7) ∈ cellsL := by decide +kernel
theorem m4_9 : (4, 9) ∈ cellsL := by decide +kernel
theorem m4_10 : (4, 10) ∈ cellsL := by decide +kernel
theorem m4_11 : (4, 11) ∈ cellsL := by decide +kernel
theorem m4_12 : (4, 12) ∈ cellsL := by decide +kernel
theorem m4_13 : (4, 13) ∈ cellsL := by decide +kernel
theorem m4_14 : (4, 14) ∈ cellsL := by decide +kernel
theorem m4_16 : (4, 16) ∈ cellsL := by decide +kernel
theorem m4_17 : (4, 17) ∈ cellsL := by decide +kernel
theorem m4_18 : (4, 18) ∈ cellsL := by decide +kernel
theorem m4_19 : (4, 19) ∈ cellsL := by decide +kernel
theorem m4_29 : (4, 29) ∈ cellsL := by decide +kernel
theorem m4_31 : (4, 31) ∈ cellsL := by decide +kernel
theorem m4_33 : (4, 33) ∈ cellsL := by decide +kernel
theorem m4_35 : (4, 35) ∈ cellsL := by decide +kernel
theorem m4_38 : (4, 38) ∈ cellsL := by decide +kernel
theorem m4_39 : (4, 39) ∈ cellsL := by decide +kernel
theorem m4_47 : (4, 47) ∈ cellsL := by decide +kernel
theorem m4_48 : (4, 48) ∈ cellsL := by decide +kernel
theorem m4_49 : (4, 49) ∈ cellsL := by decide +kernel
theorem m4_50 : (4, 50) ∈ cellsL := by decide +kernel
theorem m4_52 : (4, 52) ∈ cellsL := by decide +kernel
section Links
variable {p : Program} {l : Launch} {e : Env} {R : Room} {s : State} {m : MethodId} {args : Array Value} {below : List Frame} {meth : Method} {c : Code} {H : Heap} {locs : List Loc} {cells slots : Nat} {Q : State → Prop} {cc : ByteArray} {nL : Nat} {pc : Nat} {ls : Array Slot} {rest : List Value} {G : GG} {σ : St} {g : Nat} {ρ : Gr}
theorem gf0_9 (hg : HG g) (X : Cx p m c cc nL s args RX0 G) (w : Wh G s σ g ρ H locs) (hd : decode cc pc = .ok (.getfield 9, 3)) (kk : W p l e R s m args below meth c H locs cells slots Q (F0 m (pc + 3) ls (.int (ρ 1 0) :: rest))) : W p l e R s m args below meth c H locs cells slots Q (F0 m pc ls (.ref (aa G g 1) :: rest)) :=
  r_gv X w (hg.in (by decide)) hg.sh (k := 0) rfl rfl (by decide) inT0 rfl kw31 hd kk
theorem pf0_9 (hg : HG g) (X : Cx p m c cc nL s args RX0 G) (w : Wh G s σ g ρ H locs) {x : Int32} (hd : decode cc pc = .ok (.putfield 9, 3)) (kk : ∀ (ρ1 : Gr) (H1 : Heap) (locs1 : List Loc), ρ1 = up ρ 1 0 x → Wh G s σ g ρ1 H1 locs1 → W p l e R s m args below meth c H1 locs1 cells slots Q (F0 m (pc + 3) ls rest)) : W p l e R s m args below meth c H locs cells slots Q (F0 m pc ls (.int x :: .ref (aa G g 1) :: rest)) :=
  r_pi X w (hg.in (by decide)) hg.sh (k := 0) rfl rfl (by decide) inT0 tyX0 tyX0_ok nmX0 rfl kw31 rfl (ty := .int) (by decide +kernel) rfl rfl hd (fun H1 locs1 w1 => kk _ H1 locs1 rfl w1)
theorem gf0_15 (hg : HG g) (X : Cx p m c cc nL s args RX0 G) (w : Wh G s σ g ρ H locs) (hd : decode cc pc = .ok (.getfield 15, 3)) (kk : W p l e R s m args below meth c H locs cells slots Q (F0 m (pc + 3) ls (.ref (aa G g 2) :: rest))) : W p l e R s m args below meth c H locs cells slots Q (F0 m pc ls (.ref (aa G g 1) :: rest)) :=
  r_gv X w (hg.in (by decide)) hg.sh (k := 1) rfl rfl (by decide) inT0 rfl kw33 hd kk
theorem gf0_19 (hg : HG g) (X : Cx p m c cc nL s args RX0 G) (w : Wh G s σ g ρ H locs) (hd : decode cc pc = .ok (.getfield 19, 3)) (kk : W p l e R s m args below meth c H locs cells slots Q (F0 m (pc + 3) ls (.ref (aa G g 3) :: rest))) : W p l e R s m args below meth c H locs cells slots Q (F0 m pc ls (.ref (aa G g 1) :: rest)) :=
  r_gv X w (hg.in (by decide)) hg.sh (k := 2) rfl rfl (by decide) inT0 rfl kw34 hd kk
theorem gf0_22 (hg : HG g) (X : Cx p m c cc nL s args RX0 G) (w : Wh G s σ g ρ H locs) (hd : decode cc pc = .ok (.getfield 22, 3)) (kk : W p l e R s m args below meth c H locs cells slots Q (F0 m (pc + 3) ls (.ref (aa G g 4) :: rest))) : W p l e R s m args below meth c H locs cells slots Q (F0 m pc ls (.ref (aa G g 1) :: rest)) :=
  r_gv X w (hg.in (by decide)) hg.sh (k := 3) rfl rfl (by decide) inT0 rfl kw35 hd kk
theorem gf0_25 (hg : HG g) (X : Cx p m c cc nL s args RX0 G) (w : Wh G s σ g ρ H locs) (hd : decode cc pc = .ok (.getfield 25, 3)) (kk : W p l e R s m args below meth c H locs cells slots Q (F0 m (pc + 3) ls (.ref (aa G g 5) :: rest))) : W p l e R s m args below meth c H locs cells slots Q (F0 m pc ls (.ref (aa G g 1) :: rest)) :=
  r_gv X w (hg.in (by decide)) hg.sh (k := 4) rfl rfl (by decide) inT0 rfl kw36 hd kk
theorem gf0_28 (hg : HG g) (X : Cx p m c cc nL s args RX0 G) (w : Wh G s σ g ρ H locs) (hd : decode cc pc = .ok (.getfield 28, 3)) (kk : W p l e R s m args below meth c H locs cells slots Q (F0 m (pc + 3) ls (.ref (aa G g 6) :: rest))) : W p l e R s m args below meth c H locs cells slots Q (F0 m pc ls (.ref (aa G g 1) :: rest)) :=
  r_gv X w (hg.in (by decide)) hg.sh (k := 5) rfl rfl (by decide) inT0 rfl kw37 hd kk
theorem gf0_31 (hg : HG g) (X : Cx p m c cc nL s args RX0 G) (w : Wh G s σ g ρ H locs) (hd : decode cc pc = .ok (.getfield 31, 3)) (kk : W p l e R s m args below meth c H locs cells slots Q (F0 m (pc + 3) ls (.ref (aa G g 7) :: rest))) : W p l e R s m args below meth c H locs cells slots Q (F0 m pc ls (.ref (aa G g 1) :: rest)) :=
  r_gv X w (hg.in (by decide)) hg.sh (k := 6) rfl rfl (by decide) inT0 rfl kw38 hd kk
theorem gf0_34 (hg : HG g) (X : Cx p m c cc nL s args RX0 G) (w : Wh G s σ g ρ H locs) (hd : decode cc pc = .ok (.getfield 34, 3)) (kk : W p l e R s m args below meth c H locs cells slots Q (F0 m (pc + 3) ls (.ref (aa G g 8) :: rest))) : W p l e R s m args below meth c H locs cells slots Q (F0 m pc ls (.ref (aa G g 1) :: rest)) :=
  r_gv X w (hg.in (by decide)) hg.sh (k := 7) rfl rfl (by decide) inT0 rfl kw40 hd kk
theorem gf1_9 (X : Cx p m c cc nL s args RX1 G) (w : Wh G s σ 0 ρ H locs) (hd : decode cc pc = .ok (.getfield 9, 3)) (kk : W p l e R s m args below meth c H locs cells slots Q (F0 m (pc + 3) ls (.int (ρ 1 0) :: rest))) : W p l e R s m args below meth c H locs cells slots Q (F0 m pc ls (.ref (aa G 0 1) :: rest)) :=
  r_gv X w m0_1 rfl (k := 0) rfl rfl (by decide) inT1 rfl kw203 hd kk
theorem pf1_9 (X : Cx p m c cc nL s args RX1 G) (w : Wh G s σ 0 ρ H locs) {x : Int32} (hd : decode cc pc = .ok (.putfield 9, 3)) (kk : ∀ (ρ1 : Gr) (H1 : Heap) (locs1 : List Loc), ρ1 = up ρ 1 0 x → Wh G s σ 0 ρ1 H1 locs1 → W p l e R s m args below meth c H1 locs1 cells slots Q (F0 m (pc + 3) ls rest)) : W p l e R s m args below meth c H locs cells slots Q (F0 m pc ls (.int x :: .ref (aa G 0 1) :: rest)) :=
  r_pi X w m0_1 rfl (k := 0) rfl rfl (by decide) inT1 tyX1 tyX1_ok nmX1 rfl kw203 rfl (ty := .int) (by decide +kernel) rfl rfl hd (fun H1 locs1 w1 => kk _ H1 locs1 rfl w1)
theorem gf1_15 (X : Cx p m c cc nL s args RX1 G) (w : Wh G s σ 0 ρ H locs) (hd : decode cc pc = .ok (.getfield 15, 3)) (kk : W p l e R s m args below meth c H locs cells slots Q (F0 m (pc + 3) ls (.ref (aa G 0 2) :: rest))) : W p l e R s m args below meth c H locs cells slots Q (F0 m pc ls (.ref (aa G 0 1) :: rest)) :=
  r_gv X w m0_1 rfl (k := 1) rfl rfl (by decide) inT1 rfl kw205 hd kk
theorem gf1_19 (X : Cx p m c cc nL s args RX1 G) (w : Wh G s σ 0 ρ H locs) (hd : decode cc pc = .ok (.getfield 19, 3)) (kk : W p l e R s m args below meth c H locs cells slots Q (F0 m (pc + 3) ls (.int (ρ 1 2) :: rest))) : W p l e R s m args below meth c H locs cells slots Q (F0 m pc ls (.ref (aa G 0 1) :: rest)) :=
  r_gv X w m0_1 rfl (k := 2) rfl rfl (by decide) inT1 rfl kw206 hd kk
theorem pf1_19 (X : Cx p m c cc nL s args RX1 G) (w : Wh G s σ 0 ρ H locs) {x : Int32} (hd : decode cc pc = .ok (.putfield 19, 3)) (kk : ∀ (ρ1 : Gr) (H1 : Heap) (locs1 : List Loc), ρ1 = up ρ 1 2 x → Wh G s σ 0 ρ1 H1 locs1 → W p l e R s m args below meth c H1 locs1 cells slots Q (F0 m (pc + 3) ls rest)) : W p l e R s m args below meth c H locs cells slots Q (F0 m pc ls (.int x :: .ref (aa G 0 1) :: rest)) :=
  r_pi X w m0_1 rfl (k := 2) rfl rfl (by decide) inT1 tyX1 tyX1_ok nmX1 rfl kw206 rfl (ty := .int) (by decide +kernel) rfl rfl hd (fun H1 locs1 w1 => kk _ H1 locs1 rfl w1)
theorem gf1_22 (X : Cx p m c cc nL s args RX1 G) (w : Wh G s σ 0 ρ H locs) (hd : decode cc pc = .ok (.getfield 22, 3)) (kk : W p l e R s m args below meth c H locs cells slots Q (F0 m (pc + 3) ls (.int (ρ 1 3) :: rest))) : W p l e R s m args below meth c H locs cells slots Q (F0 m pc ls (.ref (aa G 0 1) :: rest)) :=
  r_gv X w m0_1 rfl (k := 3) rfl rfl (by decide) inT1 rfl kw207 hd kk
theorem pf1_22 (X : Cx p m c cc nL s args RX1 G) (w : Wh G s σ 0 ρ H locs) {x : Int32} (hd : decode cc pc = .ok (.putfield 22, 3)) (kk : ∀ (ρ1 : Gr) (H1 : Heap) (locs1 : List Loc), ρ1 = up ρ 1 3 x → Wh G s σ 0 ρ1 H1 locs1 → W p l e R s m args below meth c H1 locs1 cells slots Q (F0 m (pc + 3) ls rest)) : W p l e R s m args below meth c H locs cells slots Q (F0 m pc ls (.int x :: .ref (aa G 0 1) :: rest)) :=
  r_pi X w m0_1 rfl (k := 3) rfl rfl (by decide) inT1 tyX1 tyX1_ok nmX1 rfl kw207 rfl (ty := .int) (by decide +kernel) rfl rfl hd (fun H1 locs1 w1 => kk _ H1 locs1 rfl w1)
theorem gf1_25 (X : Cx p m c cc nL s args RX1 G) (w : Wh G s σ 0 ρ H locs) (hd : decode cc pc = .ok (.getfield 25, 3)) (kk : W p l e R s m args below meth c H locs cells slots Q (F0 m (pc + 3) ls (.int (ρ 1 4) :: rest))) : W p l e R s m args below meth c H locs cells slots Q (F0 m pc ls (.ref (aa G 0 1) :: rest)) :=
  r_gv X w m0_1 rfl (k := 4) rfl rfl (by decide) inT1 rfl kw208 hd kk
theorem pf1_25 (X : Cx p m c cc nL s args RX1 G) (w : Wh G s σ 0 ρ H locs) {x : Int32} (hd : decode cc pc = .ok (.putfield 25, 3)) (kk : ∀ (ρ1 : Gr) (H1 : Heap) (locs1 : List Loc), ρ1 = up ρ 1 4 x → Wh G s σ 0 ρ1 H1 locs1 → W p l e R s m args below meth c H1 locs1 cells slots Q (F0 m (pc + 3) ls rest)) : W p l e R s m args below meth c H locs cells slots Q (F0 m pc ls (.int x :: .ref (aa G 0 1) :: rest)) :=
  r_pi X w m0_1 rfl (k := 4) rfl rfl (by decide) inT1 tyX1 tyX1_ok nmX1 rfl kw208 rfl (ty := .int) (by decide +kernel) rfl rfl hd (fun H1 locs1 w1 => kk _ H1 locs1 rfl w1)
theorem gf1_28 (X : Cx p m c cc nL s args RX1 G) (w : Wh G s σ 0 ρ H locs) (hd : decode cc pc = .ok (.getfield 28, 3)) (kk : W p l e R s m args below meth c H locs cells slots Q (F0 m (pc + 3) ls (.int (ρ 1 5) :: rest))) : W p l e R s m args below meth c H locs cells slots Q (F0 m pc ls (.ref (aa G 0 1) :: rest)) :=
  r_gv X w m0_1 rfl (k := 5) rfl rfl (by decide) inT1 rfl kw209 hd kk
theorem pf1_28 (X : Cx p m c cc nL s args RX1 G) (w : Wh G s σ 0 ρ H locs) {x : Int32} (hd : decode cc pc = .ok (.putfield 28, 3)) (kk : ∀ (ρ1 : Gr) (H1 : Heap) (locs1 : List Loc), ρ1 = up ρ 1 5 x → Wh G s σ 0 ρ1 H1 locs1 → W p l e R s m args below meth c H1 locs1 cells slots Q (F0 m (pc + 3) ls rest)) : W p l e R s m args below meth c H locs cells slots Q (F0 m pc ls (.int x :: .ref (aa G 0 1) :: rest)) :=
  r_pi X w m0_1 rfl (k := 5) rfl rfl (by decide) inT1 tyX1 tyX1_ok nmX1 rfl kw209 rfl (ty := .int) (by decide +kernel) rfl rfl hd (fun H1 locs1 w1 => kk _ H1 locs1 rfl w1)
theorem gf1_31 (X : Cx p m c cc nL s args RX1 G) (w : Wh G s σ 0 ρ H locs) (hd : decode cc pc = .ok (.getfield 31, 3)) (kk : W p l e R s m args below meth c H locs cells slots Q (F0 m (pc + 3) ls (.int (ρ 1 6) :: rest))) : W p l e R s m args below meth c H locs cells slots Q (F0 m pc ls (.ref (aa G 0 1) :: rest)) :=
  r_gv X w m0_1 rfl (k := 6) rfl rfl (by decide) inT1 rfl kw210 hd kk
theorem pf1_31 (X : Cx p m c cc nL s args RX1 G) (w : Wh G s σ 0 ρ H locs) {x : Int32} (hd : decode cc pc = .ok (.putfield 31, 3)) (kk : ∀ (ρ1 : Gr) (H1 : Heap) (locs1 : List Loc), ρ1 = up ρ 1 6 x → Wh G s σ 0 ρ1 H1 locs1 → W p l e R s m args below meth c H1 locs1 cells slots Q (F0 m (pc + 3) ls rest)) : W p l e R s m args below meth c H locs cells slots Q (F0 m pc ls (.int x :: .ref (aa G 0 1) :: rest)) :=
  r_pi X w m0_1 rfl (k := 6) rfl rfl (by decide) inT1 tyX1 tyX1_ok nmX1 rfl kw210 rfl (ty := .int) (by decide +kernel) rfl rfl hd (fun H1 locs1 w1 => kk _ H1 locs1 rfl w1)
theorem gf1_34 (X : Cx p m c cc nL s args RX1 G) (w : Wh G s σ 0 ρ H locs) (hd : decode cc pc = .ok (.getfield 34, 3)) (kk : W p l e R s m args below meth c H locs cells slots Q (F0 m (pc + 3) ls (.int (ρ 1 7) :: rest))) : W p l e R s m args below meth c H locs cells slots Q (F0 m pc ls (.ref (aa G 0 1) :: rest)) :=
  r_gv X w m0_1 rfl (k := 7) rfl rfl (by decide) inT1 rfl kw211 hd kk
theorem pf1_34 (X : Cx p m c cc nL s args RX1 G) (w : Wh G s σ 0 ρ H locs) {x : Int32} (hd : decode cc pc = .ok (.putfield 34, 3)) (kk : ∀ (ρ1 : Gr) (H1 : Heap) (locs1 : List Loc), ρ1 = up ρ 1 7 x → Wh G s σ 0 ρ1 H1 locs1 → W p l e R s m args below meth c H1 locs1 cells slots Q (F0 m (pc + 3) ls rest)) : W p l e R s m args below meth c H locs cells slots Q (F0 m pc ls (.int x :: .ref (aa G 0 1) :: rest)) :=
  r_pi X w m0_1 rfl (k := 7) rfl rfl (by decide) inT1 tyX1 tyX1_ok nmX1 rfl kw211 rfl (ty := .int) (by decide +kernel) rfl rfl hd (fun H1 locs1 w1 => kk _ H1 locs1 rfl w1)
theorem gf1_37 (X : Cx p m c cc nL s args RX1 G) (w : Wh G s σ 0 ρ H locs) (hd : decode cc pc = .ok (.getfield 37, 3)) (kk : W p l e R s m args below meth c H locs cells slots Q (F0 m (pc + 3) ls (.int (ρ 1 8) :: rest))) : W p l e R s m args below meth c H locs cells slots Q (F0 m pc ls (.ref (aa G 0 1) :: rest)) :=
  r_gv X w m0_1 rfl (k := 8) rfl rfl (by decide) inT1 rfl kw212 hd kk
theorem pf1_37 (X : Cx p m c cc nL s args RX1 G) (w : Wh G s σ 0 ρ H locs) {x : Int32} (hd : decode cc pc = .ok (.putfield 37, 3)) (kk : ∀ (ρ1 : Gr) (H1 : Heap) (locs1 : List Loc), ρ1 = up ρ 1 8 x → Wh G s σ 0 ρ1 H1 locs1 → W p l e R s m args below meth c H1 locs1 cells slots Q (F0 m (pc + 3) ls rest)) : W p l e R s m args below meth c H locs cells slots Q (F0 m pc ls (.int x :: .ref (aa G 0 1) :: rest)) :=
  r_pi X w m0_1 rfl (k := 8) rfl rfl (by decide) inT1 tyX1 tyX1_ok nmX1 rfl kw212 rfl (ty := .int) (by decide +kernel) rfl rfl hd (fun H1 locs1 w1 => kk _ H1 locs1 rfl w1)
theorem gf1_40 (X : Cx p m c cc nL s args RX1 G) (w : Wh G s σ 0 ρ H locs) (hd : decode cc pc = .ok (.getfield 40, 3)) (kk : W p l e R s m args below meth c H locs cells slots Q (F0 m (pc + 3) ls (.int (ρ 1 9) :: rest))) : W p l e R s m args below meth c H locs cells slots Q (F0 m pc ls (.ref (aa G 0 1) :: rest)) :=
  r_gv X w m0_1 rfl (k := 9) rfl rfl (by decide) inT1 rfl kw213 hd kk
theorem pf1_40 (X : Cx p m c cc nL s args RX1 G) (w : Wh G s σ 0 ρ H locs) {x : Int32} (hd : decode cc pc = .ok (.putfield 40, 3)) (kk : ∀ (ρ1 : Gr) (H1 : Heap) (locs1 : List Loc), ρ1 = up ρ 1 9 x → Wh G s σ 0 ρ1 H1 locs1 → W p l e R s m args below meth c H1 locs1 cells slots Q (F0 m (pc + 3) ls rest)) : W p l e R s m args below meth c H locs cells slots Q (F0 m pc ls (.int x :: .ref (aa G 0 1) :: rest)) :=
  r_pi X w m0_1 rfl (k := 9) rfl rfl (by decide) inT1 tyX1 tyX1_ok nmX1 rfl kw213 rfl (ty := .int) (by decide +kernel) rfl rfl hd (fun H1 locs1 w1 => kk _ H1 locs1 rfl w1)
theorem gf1_43 (X : Cx p m c cc nL s args RX1 G) (w : Wh G s σ 0 ρ H locs) (hd : decode cc pc = .ok (.getfield 43, 3)) (kk : W p l e R s m args below meth c H locs cells slots Q (F0 m (pc + 3) ls (.int (ρ 1 10) :: rest))) : W p l e R s m args below meth c H locs cells slots Q (F0 m pc ls (.ref (aa G 0 1) :: rest)) :=
  r_gv X w m0_1 rfl (k := 10) rfl rfl (by decide) inT1 rfl kw214 hd kk
theorem pf1_43 (X : Cx p m c cc nL s args RX1 G) (w : Wh G s σ 0 ρ H locs) {x : Int32} (hd : decode cc pc = .ok (.putfield 43, 3)) (kk : ∀ (ρ1 : Gr) (H1 : Heap) (locs1 : List Loc), ρ1 = up ρ 1 10 x → Wh G s σ 0 ρ1 H1 locs1 → W p l e R s m args below meth c H1 locs1 cells slots Q (F0 m (pc + 3) ls rest)) : W p l e R s m args below meth c H locs cells slots Q (F0 m pc ls (.int x :: .ref (aa G 0 1) :: rest)) :=
  r_pi X w m0_1 rfl (k := 10) rfl rfl (by decide) inT1 tyX1 tyX1_ok nmX1 rfl kw214 rfl (ty := .int) (by decide +kernel) rfl rfl hd (fun H1 locs1 w1 => kk _ H1 locs1 rfl w1)
theorem gf1_46 (X : Cx p m c cc nL s args RX1 G) (w : Wh G s σ 0 ρ H locs) (hd : decode cc pc = .ok (.getfield 46, 3)) (kk : W p l e R s m args below meth c H locs cells slots Q (F0 m (pc + 3) ls (.int (ρ 1 11) :: rest))) : W p l e R s m args below meth c H locs cells slots Q (F0 m pc ls (.ref (aa G 0 1) :: rest)) :=
  r_gv X w m0_1 rfl (k := 11) rfl rfl (by decide) inT1 rfl kw215 hd kk
theorem pf1_46 (X : Cx p m c cc nL s args RX1 G) (w : Wh G s σ 0 ρ H locs) {x : Int32} (hd : decode cc pc = .ok (.putfield 46, 3)) (kk : ∀ (ρ1 : Gr) (H1 : Heap) (locs1 : List Loc), ρ1 = up ρ 1 11 x → Wh G s σ 0 ρ1 H1 locs1 → W p l e R s m args below meth c H1 locs1 cells slots Q (F0 m (pc + 3) ls rest)) : W p l e R s m args below meth c H locs cells slots Q (F0 m pc ls (.int x :: .ref (aa G 0 1) :: rest)) :=
  r_pi X w m0_1 rfl (k := 11) rfl rfl (by decide) inT1 tyX1 tyX1_ok nmX1 rfl kw215 rfl (ty := .int) (by decide +kernel) rfl rfl hd (fun H1 locs1 w1 => kk _ H1 locs1 rfl w1)
theorem gf1_57 (hg : HG g) (X : Cx p m c cc nL s args RX1 G) (w : Wh G s σ g ρ H locs) (hd : decode cc pc = .ok (.getfield 57, 3)) (kk : W p l e R s m args below meth c H locs cells slots Q (F0 m (pc + 3) ls (.ref (aa G g 1) :: rest))) : W p l e R s m args below meth c H locs cells slots Q (F0 m pc ls (.ref (aa G g 0) :: rest)) :=
  r_gv X w (hg.in (by decide)) hg.sh (k := 0) rfl rfl (by decide) inT3 rfl kw152 hd kk
theorem gf2_9 (hg : HG g) (X : Cx p m c cc nL s args RX2 G) (w : Wh G s σ g ρ H locs) (hd : decode cc pc = .ok (.getfield 9, 3)) (kk : W p l e R s m args below meth c H locs cells slots Q (F0 m (pc + 3) ls (.int (ρ 19 0) :: rest))) : W p l e R s m args below meth c H locs cells slots Q (F0 m pc ls (.ref (aa G g 19) :: rest)) :=
  r_gv X w (hg.in (by decide)) hg.sh (k := 0) rfl rfl (by decide) inT2 rfl kw126 hd kk
theorem pf2_9 (hg : HG g) (X : Cx p m c cc nL s args RX2 G) (w : Wh G s σ g ρ H locs) {x : Int32} (hd : decode cc pc = .ok (.putfield 9, 3)) (kk : ∀ (ρ1 : Gr) (H1 : Heap) (locs1 : List Loc), ρ1 = up ρ 19 0 x → Wh G s σ g ρ1 H1 locs1 → W p l e R s m args below meth c H1 locs1 cells slots Q (F0 m (pc + 3) ls rest)) : W p l e R s m args below meth c H locs cells slots Q (F0 m pc ls (.int x :: .ref (aa G g 19) :: rest)) :=
  r_pi X w (hg.in (by decide)) hg.sh (k := 0) rfl rfl (by decide) inT2 tyX2 tyX2_ok nmX2 rfl kw126 rfl (ty := .int) (by decide +kernel) rfl rfl hd (fun H1 locs1 w1 => kk _ H1 locs1 rfl w1)
theorem gf2_15 (hg : HG g) (X : Cx p m c cc nL s args RX2 G) (w : Wh G s σ g ρ H locs) (hd : decode cc pc = .ok (.getfield 15, 3)) (kk : W p l e R s m args below meth c H locs cells slots Q (F0 m (pc + 3) ls (.int (ρ 19 1) :: rest))) : W p l e R s m args below meth c H locs cells slots Q (F0 m pc ls (.ref (aa G g 19) :: rest)) :=
  r_gv X w (hg.in (by decide)) hg.sh (k := 1) rfl rfl (by decide) inT2 rfl kw129 hd kk
theorem pf2_15 (hg : HG g) (X : Cx p m c cc nL s args RX2 G) (w : Wh G s σ g ρ H locs) {x : Int32} (hd : decode cc pc = .ok (.putfield 15, 3)) (kk : ∀ (ρ1 : Gr) (H1 : Heap) (locs1 : List Loc), ρ1 = up ρ 19 1 x → Wh G s σ g ρ1 H1 locs1 → W p l e R s m args below meth c H1 locs1 cells slots Q (F0 m (pc + 3) ls rest)) : W p l e R s m args below meth c H locs cells slots Q (F0 m pc ls (.int x :: .ref (aa G g 19) :: rest)) :=
  r_pi X w (hg.in (by decide)) hg.sh (k := 1) rfl rfl (by decide) inT2 tyX2 tyX2_ok nmX2 rfl kw129 rfl (ty := .int) (by decide +kernel) rfl rfl hd (fun H1 locs1 w1 => kk _ H1 locs1 rfl w1)
theorem gf2_18 (hg : HG g) (X : Cx p m c cc nL s args RX2 G) (w : Wh G s σ g ρ H locs) (hd : decode cc pc = .ok (.getfield 18, 3)) (kk : W p l e R s m args below meth c H locs cells slots Q (F0 m (pc + 3) ls (.int (ρ 19 2) :: rest))) : W p l e R s m args below meth c H locs cells slots Q (F0 m pc ls (.ref (aa G g 19) :: rest)) :=
  r_gv X w (hg.in (by decide)) hg.sh (k := 2) rfl rfl (by decide) inT2 rfl kw132 hd kk
theorem pf2_18 (hg : HG g) (X : Cx p m c cc nL s args RX2 G) (w : Wh G s σ g ρ H locs) {x : Int32} (hd : decode cc pc = .ok (.putfield 18, 3)) (kk : ∀ (ρ1 : Gr) (H1 : Heap) (locs1 : List Loc), ρ1 = up ρ 19 2 x → Wh G s σ g ρ1 H1 locs1 → W p l e R s m args below meth c H1 locs1 cells slots Q (F0 m (pc + 3) ls rest)) : W p l e R s m args below meth c H locs cells slots Q (F0 m pc ls (.int x :: .ref (aa G g 19) :: rest)) :=
  r_pi X w (hg.in (by decide)) hg.sh (k := 2) rfl rfl (by decide) inT2 tyX2 tyX2_ok nmX2 rfl kw132 rfl (ty := .int) (by decide +kernel) rfl rfl hd (fun H1 locs1 w1 => kk _ H1 locs1 rfl w1)
theorem gf2_21 (hg : HG g) (X : Cx p m c cc nL s args RX2 G) (w : Wh G s σ g ρ H locs) (hd : decode cc pc = .ok (.getfield 21, 3)) (kk : W p l e R s m args below meth c H locs cells slots Q (F0 m (pc + 3) ls (.int (ρ 19 3) :: rest))) : W p l e R s m args below meth c H locs cells slots Q (F0 m pc ls (.ref (aa G g 19) :: rest)) :=
  r_gv X w (hg.in (by decide)) hg.sh (k := 3) rfl rfl (by decide) inT2 rfl kw135 hd kk
theorem pf2_21 (hg : HG g) (X : Cx p m c cc nL s args RX2 G) (w : Wh G s σ g ρ H locs) {x : Int32} (hd : decode cc pc = .ok (.putfield 21, 3)) (kk : ∀ (ρ1 : Gr) (H1 : Heap) (locs1 : List Loc), ρ1 = up ρ 19 3 x → Wh G s σ g ρ1 H1 locs1 → W p l e R s m args below meth c H1 locs1 cells slots Q (F0 m (pc + 3) ls rest)) : W p l e R s m args below meth c H locs cells slots Q (F0 m pc ls (.int x :: .ref (aa G g 19) :: rest)) :=
  r_pi X w (hg.in (by decide)) hg.sh (k := 3) rfl rfl (by decide) inT2 tyX2 tyX2_ok nmX2 rfl kw135 rfl (ty := .int) (by decide +kernel) rfl rfl hd (fun H1 locs1 w1 => kk _ H1 locs1 rfl w1)
theorem gf2_24 (hg : HG g) (X : Cx p m c cc nL s args RX2 G) (w : Wh G s σ g ρ H locs) (hd : decode cc pc = .ok (.getfield 24, 3)) (kk : W p l e R s m args below meth c H locs cells slots Q (F0 m (pc + 3) ls (.int (ρ 19 4) :: rest))) : W p l e R s m args below meth c H locs cells slots Q (F0 m pc ls (.ref (aa G g 19) :: rest)) :=
  r_gv X w (hg.in (by decide)) hg.sh (k := 4) rfl rfl (by decide) inT2 rfl kw137 hd kk
theorem pf2_24 (hg : HG g) (X : Cx p m c cc nL s args RX2 G) (w : Wh G s σ g ρ H locs) {x : Int32} (hd : decode cc pc = .ok (.putfield 24, 3)) (kk : ∀ (ρ1 : Gr) (H1 : Heap) (locs1 : List Loc), ρ1 = up ρ 19 4 x → Wh G s σ g ρ1 H1 locs1 → W p l e R s m args below meth c H1 locs1 cells slots Q (F0 m (pc + 3) ls rest)) : W p l e R s m args below meth c H locs cells slots Q (F0 m pc ls (.int x :: .ref (aa G g 19) :: rest)) :=
  r_pi X w (hg.in (by decide)) hg.sh (k := 4) rfl rfl (by decide) inT2 tyX2 tyX2_ok nmX2 rfl kw137 rfl (ty := .int) (by decide +kernel) rfl rfl hd (fun H1 locs1 w1 => kk _ H1 locs1 rfl w1)
theorem gf3_12 (hg : HG g) (X : Cx p m c cc nL s args RX3 G) (w : Wh G s σ g ρ H locs) (hd : decode cc pc = .ok (.getfield 12, 3)) (kk : W p l e R s m args below meth c H locs cells slots Q (F0 m (pc + 3) ls (.ref (aa G g 1) :: rest))) : W p l e R s m args below meth c H locs cells slots Q (F0 m pc ls (.ref (aa G g 0) :: rest)) :=
  r_gv X w (hg.in (by decide)) hg.sh (k := 0) rfl rfl (by decide) inT3 rfl kw150 hd kk
theorem gf3_21 (hg : HG g) (X : Cx p m c cc nL s args RX3 G) (w : Wh G s σ g ρ H locs) (hd : decode cc pc = .ok (.getfield 21, 3)) (kk : W p l e R s m args below meth c H locs cells slots Q (F0 m (pc + 3) ls (.ref (aa G g 9) :: rest))) : W p l e R s m args below meth c H locs cells slots Q (F0 m pc ls (.ref (aa G g 0) :: rest)) :=
  r_gv X w (hg.in (by decide)) hg.sh (k := 1) rfl rfl (by decide) inT3 rfl kw153 hd kk
theorem gf3_28 (hg : HG g) (X : Cx p m c cc nL s args RX3 G) (w : Wh G s σ g ρ H locs) (hd : decode cc pc = .ok (.getfield 28, 3)) (kk : W p l e R s m args below meth c H locs cells slots Q (F0 m (pc + 3) ls (.ref (aa G g 15) :: rest))) : W p l e R s m args below meth c H locs cells slots Q (F0 m pc ls (.ref (aa G g 0) :: rest)) :=
  r_gv X w (hg.in (by decide)) hg.sh (k := 2) rfl rfl (by decide) inT3 rfl kw155 hd kk
theorem gf3_35 (hg : HG g) (X : Cx p m c cc nL s args RX3 G) (w : Wh G s σ g ρ H locs) (hd : decode cc pc = .ok (.getfield 35, 3)) (kk : W p l e R s m args below meth c H locs cells slots Q (F0 m (pc + 3) ls (.ref (aa G g 19) :: rest))) : W p l e R s m args below meth c H locs cells slots Q (F0 m pc ls (.ref (aa G g 0) :: rest)) :=
  r_gv X w (hg.in (by decide)) hg.sh (k := 3) rfl rfl (by decide) inT3 rfl kw157 hd kk
theorem gf3_39 (hg : HG g) (X : Cx p m c cc nL s args RX3 G) (w : Wh G s σ g ρ H locs) (hd : decode cc pc = .ok (.getfield 39, 3)) (kk : W p l e R s m args below meth c H locs cells slots Q (F0 m (pc + 3) ls (.int (ρ 0 4) :: rest))) : W p l e R s m args below meth c H locs cells slots Q (F0 m pc ls (.ref (aa G g 0) :: rest)) :=
  r_gv X w (hg.in (by decide)) hg.sh (k := 4) rfl rfl (by decide) inT3 rfl kw159 hd kk
theorem pf3_39 (hg : HG g) (X : Cx p m c cc nL s args RX3 G) (w : Wh G s σ g ρ H locs) {x : Int32} (hd : decode cc pc = .ok (.putfield 39, 3)) (kk : ∀ (ρ1 : Gr) (H1 : Heap) (locs1 : List Loc), ρ1 = up ρ 0 4 x → Wh G s σ g ρ1 H1 locs1 → W p l e R s m args below meth c H1 locs1 cells slots Q (F0 m (pc + 3) ls rest)) : W p l e R s m args below meth c H locs cells slots Q (F0 m pc ls (.int x :: .ref (aa G g 0) :: rest)) :=
  r_pi X w (hg.in (by decide)) hg.sh (k := 4) rfl rfl (by decide) inT3 tyX3 tyX3_ok nmX3 rfl kw159 rfl (ty := .int) (by decide +kernel) rfl rfl hd (fun H1 locs1 w1 => kk _ H1 locs1 rfl w1)
theorem gf3_43 (hg : HG g) (X : Cx p m c cc nL s args RX3 G) (w : Wh G s σ g ρ H locs) (hd : decode cc pc = .ok (.getfield 43, 3)) (kk : W p l e R s m args below meth c H locs cells slots Q (F0 m (pc + 3) ls (.int (ρ 0 5) :: rest))) : W p l e R s m args below meth c H locs cells slots Q (F0 m pc ls (.ref (aa G g 0) :: rest)) :=
  r_gv X w (hg.in (by decide)) hg.sh (k := 5) rfl rfl (by decide) inT3 rfl kw161 hd kk
theorem pf3_43 (hg : HG g) (X : Cx p m c cc nL s args RX3 G) (w : Wh G s σ g ρ H locs) {x : Int32} (hd : decode cc pc = .ok (.putfield 43, 3)) (kk : ∀ (ρ1 : Gr) (H1 : Heap) (locs1 : List Loc), ρ1 = up ρ 0 5 x → Wh G s σ g ρ1 H1 locs1 → W p l e R s m args below meth c H1 locs1 cells slots Q (F0 m (pc + 3) ls rest)) : W p l e R s m args below meth c H locs cells slots Q (F0 m pc ls (.int x :: .ref (aa G g 0) :: rest)) :=
  r_pi X w (hg.in (by decide)) hg.sh (k := 5) rfl rfl (by decide) inT3 tyX3 tyX3_ok nmX3 rfl kw161 rfl (ty := .int) (by decide +kernel) rfl rfl hd (fun H1 locs1 w1 => kk _ H1 locs1 rfl w1)
theorem gf3_46 (hg : HG g) (X : Cx p m c cc nL s args RX3 G) (w : Wh G s σ g ρ H locs) (hd : decode cc pc = .ok (.getfield 46, 3)) (kk : W p l e R s m args below meth c H locs cells slots Q (F0 m (pc + 3) ls (.int (ρ 0 6) :: rest))) : W p l e R s m args below meth c H locs cells slots Q (F0 m pc ls (.ref (aa G g 0) :: rest)) :=
  r_gv X w (hg.in (by decide)) hg.sh (k := 6) rfl rfl (by decide) inT3 rfl kw162 hd kk
theorem pf3_46 (hg : HG g) (X : Cx p m c cc nL s args RX3 G) (w : Wh G s σ g ρ H locs) {x : Int32} (hd : decode cc pc = .ok (.putfield 46, 3)) (kk : ∀ (ρ1 : Gr) (H1 : Heap) (locs1 : List Loc), ρ1 = up ρ 0 6 x → Wh G s σ g ρ1 H1 locs1 → W p l e R s m args below meth c H1 locs1 cells slots Q (F0 m (pc + 3) ls rest)) : W p l e R s m args below meth c H locs cells slots Q (F0 m pc ls (.int x :: .ref (aa G g 0) :: rest)) :=
  r_pi X w (hg.in (by decide)) hg.sh (k := 6) rfl rfl (by decide) inT3 tyX3 tyX3_ok nmX3 rfl kw162 rfl (ty := .int) (by decide +kernel) rfl rfl hd (fun H1 locs1 w1 => kk _ H1 locs1 rfl w1)
theorem gf3_49 (hg : HG g) (X : Cx p m c cc nL s args RX3 G) (w : Wh G s σ g ρ H locs) (hd : decode cc pc = .ok (.getfield 49, 3)) (kk : W p l e R s m args below meth c H locs cells slots Q (F0 m (pc + 3) ls (.int (ρ 0 7) :: rest))) : W p l e R s m args below meth c H locs cells slots Q (F0 m pc ls (.ref (aa G g 0) :: rest)) :=
  r_gv X w (hg.in (by decide)) hg.sh (k := 7) rfl rfl (by decide) inT3 rfl kw164 hd kk
theorem pf3_49 (hg : HG g) (X : Cx p m c cc nL s args RX3 G) (w : Wh G s σ g ρ H locs) {x : Int32} (hd : decode cc pc = .ok (.putfield 49, 3)) (kk : ∀ (ρ1 : Gr) (H1 : Heap) (locs1 : List Loc), ρ1 = up ρ 0 7 x → Wh G s σ g ρ1 H1 locs1 → W p l e R s m args below meth c H1 locs1 cells slots Q (F0 m (pc + 3) ls rest)) : W p l e R s m args below meth c H locs cells slots Q (F0 m pc ls (.int x :: .ref (aa G g 0) :: rest)) :=
  r_pi X w (hg.in (by decide)) hg.sh (k := 7) rfl rfl (by decide) inT3 tyX3 tyX3_ok nmX3 rfl kw164 rfl (ty := .int) (by decide +kernel) rfl rfl hd (fun H1 locs1 w1 => kk _ H1 locs1 rfl w1)
theorem gf3_52 (hg : HG g) (X : Cx p m c cc nL s args RX3 G) (w : Wh G s σ g ρ H locs) (hd : decode cc pc = .ok (.getfield 52, 3)) (kk : W p l e R s m args below meth c H locs cells slots Q (F0 m (pc + 3) ls (.int (ρ 0 8) :: rest))) : W p l e R s m args below meth c H locs cells slots Q (F0 m pc ls (.ref (aa G g 0) :: rest)) :=
  r_gv X w (hg.in (by decide)) hg.sh (k := 8) rfl rfl (by decide) inT3 rfl kw166 hd kk
theorem pf3_52 (hg : HG g) (X : Cx p m c cc nL s args RX3 G) (w : Wh G s σ g ρ H locs) {x : Int32} (hd : decode cc pc = .ok (.putfield 52, 3)) (kk : ∀ (ρ1 : Gr) (H1 : Heap) (locs1 : List Loc), ρ1 = up ρ 0 8 x → Wh G s σ g ρ1 H1 locs1 → W p l e R s m args below meth c H1 locs1 cells slots Q (F0 m (pc + 3) ls rest)) : W p l e R s m args below meth c H locs cells slots Q (F0 m pc ls (.int x :: .ref (aa G g 0) :: rest)) :=
  r_pi X w (hg.in (by decide)) hg.sh (k := 8) rfl rfl (by decide) inT3 tyX3 tyX3_ok nmX3 rfl kw166 rfl (ty := .int) (by decide +kernel) rfl rfl hd (fun H1 locs1 w1 => kk _ H1 locs1 rfl w1)
theorem gf3_55 (hg : HG g) (X : Cx p m c cc nL s args RX3 G) (w : Wh G s σ g ρ H locs) (hd : decode cc pc = .ok (.getfield 55, 3)) (kk : W p l e R s m args below meth c H locs cells slots Q (F0 m (pc + 3) ls (.int (ρ 0 9) :: rest))) : W p l e R s m args below meth c H locs cells slots Q (F0 m pc ls (.ref (aa G g 0) :: rest)) :=
  r_gv X w (hg.in (by decide)) hg.sh (k := 9) rfl rfl (by decide) inT3 rfl kw168 hd kk
theorem pf3_55 (hg : HG g) (X : Cx p m c cc nL s args RX3 G) (w : Wh G s σ g ρ H locs) {x : Int32} (hd : decode cc pc = .ok (.putfield 55, 3)) (kk : ∀ (ρ1 : Gr) (H1 : Heap) (locs1 : List Loc), ρ1 = up ρ 0 9 x → Wh G s σ g ρ1 H1 locs1 → W p l e R s m args below meth c H1 locs1 cells slots Q (F0 m (pc + 3) ls rest)) : W p l e R s m args below meth c H locs cells slots Q (F0 m pc ls (.int x :: .ref (aa G g 0) :: rest)) :=
  r_pi X w (hg.in (by decide)) hg.sh (k := 9) rfl rfl (by decide) inT3 tyX3 tyX3_ok nmX3 rfl kw168 rfl (ty := .int) (by decide +kernel) rfl rfl hd (fun H1 locs1 w1 => kk _ H1 locs1 rfl w1)
theorem gf3_58 (hg : HG g) (X : Cx p m c cc nL s args RX3 G) (w : Wh G s σ g ρ H locs) (hd : decode cc pc = .ok (.getfield 58, 3)) (kk : W p l e R s m args below meth c H locs cells slots Q (F0 m (pc + 3) ls (.int (ρ 0 10) :: rest))) : W p l e R s m args below meth c H locs cells slots Q (F0 m pc ls (.ref (aa G g 0) :: rest)) :=
  r_gv X w (hg.in (by decide)) hg.sh (k := 10) rfl rfl (by decide) inT3 rfl kw170 hd kk
theorem pf3_58 (hg : HG g) (X : Cx p m c cc nL s args RX3 G) (w : Wh G s σ g ρ H locs) {x : Int32} (hd : decode cc pc = .ok (.putfield 58, 3)) (kk : ∀ (ρ1 : Gr) (H1 : Heap) (locs1 : List Loc), ρ1 = up ρ 0 10 x → Wh G s σ g ρ1 H1 locs1 → W p l e R s m args below meth c H1 locs1 cells slots Q (F0 m (pc + 3) ls rest)) : W p l e R s m args below meth c H locs cells slots Q (F0 m pc ls (.int x :: .ref (aa G g 0) :: rest)) :=
  r_pi X w (hg.in (by decide)) hg.sh (k := 10) rfl rfl (by decide) inT3 tyX3 tyX3_ok nmX3 rfl kw170 rfl (ty := .int) (by decide +kernel) rfl rfl hd (fun H1 locs1 w1 => kk _ H1 locs1 rfl w1)
theorem gf3_61 (hg : HG g) (X : Cx p m c cc nL s args RX3 G) (w : Wh G s σ g ρ H locs) (hd : decode cc pc = .ok (.getfield 61, 3)) (kk : W p l e R s m args below meth c H locs cells slots Q (F0 m (pc + 3) ls (.ref (aa G g 20) :: rest))) : W p l e R s m args below meth c H locs cells slots Q (F0 m pc ls (.ref (aa G g 0) :: rest)) :=
  r_gv X w (hg.in (by decide)) hg.sh (k := 11) rfl rfl (by decide) inT3 rfl kw171 hd kk
theorem gf3_130 (hg : HG g) (X : Cx p m c cc nL s args RX3 G) (w : Wh G s σ g ρ H locs) (hd : decode cc pc = .ok (.getfield 130, 3)) (kk : W p l e R s m args below meth c H locs cells slots Q (F0 m (pc + 3) ls (.ref (aa G g 7) :: rest))) : W p l e R s m args below meth c H locs cells slots Q (F0 m pc ls (.ref (aa G g 1) :: rest)) :=
  r_gv X w (hg.in (by decide)) hg.sh (k := 6) rfl rfl (by decide) inT0 rfl kw39 hd kk
theorem gf3_139 (hg : HG g) (X : Cx p m c cc nL s args RX3 G) (w : Wh G s σ g ρ H locs) (hd : decode cc pc = .ok (.getfield 139, 3)) (kk : W p l e R s m args below meth c H locs cells slots Q (F0 m (pc + 3) ls (.int (ρ 9 0) :: rest))) : W p l e R s m args below meth c H locs cells slots Q (F0 m pc ls (.ref (aa G g 9) :: rest)) :=
  r_gv X w (hg.in (by decide)) hg.sh (k := 0) rfl rfl (by decide) inT5 rfl kw67 hd kk
theorem pf3_139 (hg : HG g) (X : Cx p m c cc nL s args RX3 G) (w : Wh G s σ g ρ H locs) {x : Int32} (hd : decode cc pc = .ok (.putfield 139, 3)) (kk : ∀ (ρ1 : Gr) (H1 : Heap) (locs1 : List Loc), ρ1 = up ρ 9 0 x → Wh G s σ g ρ1 H1 locs1 → W p l e R s m args below meth c H1 locs1 cells slots Q (F0 m (pc + 3) ls rest)) : W p l e R s m args below meth c H locs cells slots Q (F0 m pc ls (.int x :: .ref (aa G g 9) :: rest)) :=
  r_pi X w (hg.in (by decide)) hg.sh (k := 0) rfl rfl (by decide) inT5 tyX5 tyX5_ok nmX5 rfl kw67 rfl (ty := .int) (by decide +kernel) rfl rfl hd (fun H1 locs1 w1 => kk _ H1 locs1 rfl w1)
theorem gf3_142 (hg : HG g) (X : Cx p m c cc nL s args RX3 G) (w : Wh G s σ g ρ H locs) (hd : decode cc pc = .ok (.getfield 142, 3)) (kk : W p l e R s m args below meth c H locs cells slots Q (F0 m (pc + 3) ls (.ref (aa G g 12) :: rest))) : W p l e R s m args below meth c H locs cells slots Q (F0 m pc ls (.ref (aa G g 9) :: rest)) :=
  r_gv X w (hg.in (by decide)) hg.sh (k := 3) rfl rfl (by decide) inT5 rfl kw74 hd kk
theorem gf3_148 (hg : HG g) (X : Cx p m c cc nL s args RX3 G) (w : Wh G s σ g ρ H locs) (hd : decode cc pc = .ok (.getfield 148, 3)) (kk : W p l e R s m args below meth c H locs cells slots Q (F0 m (pc + 3) ls (.ref (aa G g 13) :: rest))) : W p l e R s m args below meth c H locs cells slots Q (F0 m pc ls (.ref (aa G g 9) :: rest)) :=
  r_gv X w (hg.in (by decide)) hg.sh (k := 4) rfl rfl (by decide) inT5 rfl kw76 hd kk
theorem gf3_151 (hg : HG g) (X : Cx p m c cc nL s args RX3 G) (w : Wh G s σ g ρ H locs) (hd : decode cc pc = .ok (.getfield 151, 3)) (kk : W p l e R s m args below meth c H locs cells slots Q (F0 m (pc + 3) ls (.ref (aa G g 10) :: rest))) : W p l e R s m args below meth c H locs cells slots Q (F0 m pc ls (.ref (aa G g 9) :: rest)) :=
  r_gv X w (hg.in (by decide)) hg.sh (k := 1) rfl rfl (by decide) inT5 rfl kw70 hd kk
theorem gf3_158 (hg : HG g) (X : Cx p m c cc nL s args RX3 G) (w : Wh G s σ g ρ H locs) (hd : decode cc pc = .ok (.getfield 158, 3)) (kk : W p l e R s m args below meth c H locs cells slots Q (F0 m (pc + 3) ls (.ref (aa G g 14) :: rest))) : W p l e R s m args below meth c H locs cells slots Q (F0 m pc ls (.ref (aa G g 9) :: rest)) :=
  r_gv X w (hg.in (by decide)) hg.sh (k := 5) rfl rfl (by decide) inT5 rfl kw78 hd kk
theorem gf3_164 (hg : HG g) (X : Cx p m c cc nL s args RX3 G) (w : Wh G s σ g ρ H locs) (hd : decode cc pc = .ok (.getfield 164, 3)) (kk : W p l e R s m args below meth c H locs cells slots Q (F0 m (pc + 3) ls (.ref (aa G g 11) :: rest))) : W p l e R s m args below meth c H locs cells slots Q (F0 m pc ls (.ref (aa G g 9) :: rest)) :=
  r_gv X w (hg.in (by decide)) hg.sh (k := 2) rfl rfl (by decide) inT5 rfl kw72 hd kk
theorem gf3_171 (hg : HG g) (X : Cx p m c cc nL s args RX3 G) (w : Wh G s σ g ρ H locs) (hd : decode cc pc = .ok (.getfield 171, 3)) (kk : W p l e R s m args below meth c H locs cells slots Q (F0 m (pc + 3) ls (.int (ρ 15 0) :: rest))) : W p l e R s m args below meth c H locs cells slots Q (F0 m pc ls (.ref (aa G g 15) :: rest)) :=
  r_gv X w (hg.in (by decide)) hg.sh (k := 0) rfl rfl (by decide) inT4 rfl kw102 hd kk
theorem pf3_171 (hg : HG g) (X : Cx p m c cc nL s args RX3 G) (w : Wh G s σ g ρ H locs) {x : Int32} (hd : decode cc pc = .ok (.putfield 171, 3)) (kk : ∀ (ρ1 : Gr) (H1 : Heap) (locs1 : List Loc), ρ1 = up ρ 15 0 x → Wh G s σ g ρ1 H1 locs1 → W p l e R s m args below meth c H1 locs1 cells slots Q (F0 m (pc + 3) ls rest)) : W p l e R s m args below meth c H locs cells slots Q (F0 m pc ls (.int x :: .ref (aa G g 15) :: rest)) :=
  r_pi X w (hg.in (by decide)) hg.sh (k := 0) rfl rfl (by decide) inT4 tyX4 tyX4_ok nmX4 rfl kw102 rfl (ty := .int) (by decide +kernel) rfl rfl hd (fun H1 locs1 w1 => kk _ H1 locs1 rfl w1)
theorem gf3_172 (hg : HG g) (X : Cx p m c cc nL s args RX3 G) (w : Wh G s σ g ρ H locs) (hd : decode cc pc = .ok (.getfield 172, 3)) (kk : W p l e R s m args below meth c H locs cells slots Q (F0 m (pc + 3) ls (.ref (aa G g 16) :: rest))) : W p l e R s m args below meth c H locs cells slots Q (F0 m pc ls (.ref (aa G g 15) :: rest)) :=
  r_gv X w (hg.in (by decide)) hg.sh (k := 1) rfl rfl (by decide) inT4 rfl kw105 hd kk
theorem gf3_175 (hg : HG g) (X : Cx p m c cc nL s args RX3 G) (w : Wh G s σ g ρ H locs) (hd : decode cc pc = .ok (.getfield 175, 3)) (kk : W p l e R s m args below meth c H locs cells slots Q (F0 m (pc + 3) ls (.ref (aa G g 17) :: rest))) : W p l e R s m args below meth c H locs cells slots Q (F0 m pc ls (.ref (aa G g 15) :: rest)) :=
  r_gv X w (hg.in (by decide)) hg.sh (k := 2) rfl rfl (by decide) inT4 rfl kw107 hd kk
theorem gf3_176 (hg : HG g) (X : Cx p m c cc nL s args RX3 G) (w : Wh G s σ g ρ H locs) (hd : decode cc pc = .ok (.getfield 176, 3)) (kk : W p l e R s m args below meth c H locs cells slots Q (F0 m (pc + 3) ls (.ref (aa G g 18) :: rest))) : W p l e R s m args below meth c H locs cells slots Q (F0 m pc ls (.ref (aa G g 15) :: rest)) :=
  r_gv X w (hg.in (by decide)) hg.sh (k := 3) rfl rfl (by decide) inT4 rfl kw109 hd kk
theorem gf3_179 (hg : HG g) (X : Cx p m c cc nL s args RX3 G) (w : Wh G s σ g ρ H locs) (hd : decode cc pc = .ok (.getfield 179, 3)) (kk : W p l e R s m args below meth c H locs cells slots Q (F0 m (pc + 3) ls (.int (ρ 19 2) :: rest))) : W p l e R s m args below meth c H locs cells slots Q (F0 m pc ls (.ref (aa G g 19) :: rest)) :=
  r_gv X w (hg.in (by decide)) hg.sh (k := 2) rfl rfl (by decide) inT2 rfl kw133 hd kk
theorem pf3_179 (hg : HG g) (X : Cx p m c cc nL s args RX3 G) (w : Wh G s σ g ρ H locs) {x : Int32} (hd : decode cc pc = .ok (.putfield 179, 3)) (kk : ∀ (ρ1 : Gr) (H1 : Heap) (locs1 : List Loc), ρ1 = up ρ 19 2 x → Wh G s σ g ρ1 H1 locs1 → W p l e R s m args below meth c H1 locs1 cells slots Q (F0 m (pc + 3) ls rest)) : W p l e R s m args below meth c H locs cells slots Q (F0 m pc ls (.int x :: .ref (aa G g 19) :: rest)) :=
  r_pi X w (hg.in (by decide)) hg.sh (k := 2) rfl rfl (by decide) inT2 tyX2 tyX2_ok nmX2 rfl kw133 rfl (ty := .int) (by decide +kernel) rfl rfl hd (fun H1 locs1 w1 => kk _ H1 locs1 rfl w1)
theorem gf3_182 (hg : HG g) (X : Cx p m c cc nL s args RX3 G) (w : Wh G s σ g ρ H locs) (hd : decode cc pc = .ok (.getfield 182, 3)) (kk : W p l e R s m args below meth c H locs cells slots Q (F0 m (pc + 3) ls (.int (ρ 19 1) :: rest))) : W p l e R s m args below meth c H locs cells slots Q (F0 m pc ls (.ref (aa G g 19) :: rest)) :=
  r_gv X w (hg.in (by decide)) hg.sh (k := 1) rfl rfl (by decide) inT2 rfl kw130 hd kk
theorem pf3_182 (hg : HG g) (X : Cx p m c cc nL s args RX3 G) (w : Wh G s σ g ρ H locs) {x : Int32} (hd : decode cc pc = .ok (.putfield 182, 3)) (kk : ∀ (ρ1 : Gr) (H1 : Heap) (locs1 : List Loc), ρ1 = up ρ 19 1 x → Wh G s σ g ρ1 H1 locs1 → W p l e R s m args below meth c H1 locs1 cells slots Q (F0 m (pc + 3) ls rest)) : W p l e R s m args below meth c H locs cells slots Q (F0 m pc ls (.int x :: .ref (aa G g 19) :: rest)) :=
  r_pi X w (hg.in (by decide)) hg.sh (k := 1) rfl rfl (by decide) inT2 tyX2 tyX2_ok nmX2 rfl kw130 rfl (ty := .int) (by decide +kernel) rfl rfl hd (fun H1 locs1 w1 => kk _ H1 locs1 rfl w1)
theorem gf3_187 (hg : HG g) (X : Cx p m c cc nL s args RX3 G) (w : Wh G s σ g ρ H locs) (hd : decode cc pc = .ok (.getfield 187, 3)) (kk : W p l e R s m args below meth c H locs cells slots Q (F0 m (pc + 3) ls (.int (ρ 19 3) :: rest))) : W p l e R s m args below meth c H locs cells slots Q (F0 m pc ls (.ref (aa G g 19) :: rest)) :=
  r_gv X w (hg.in (by decide)) hg.sh (k := 3) rfl rfl (by decide) inT2 rfl kw136 hd kk
theorem pf3_187 (hg : HG g) (X : Cx p m c cc nL s args RX3 G) (w : Wh G s σ g ρ H locs) {x : Int32} (hd : decode cc pc = .ok (.putfield 187, 3)) (kk : ∀ (ρ1 : Gr) (H1 : Heap) (locs1 : List Loc), ρ1 = up ρ 19 3 x → Wh G s σ g ρ1 H1 locs1 → W p l e R s m args below meth c H1 locs1 cells slots Q (F0 m (pc + 3) ls rest)) : W p l e R s m args below meth c H locs cells slots Q (F0 m pc ls (.int x :: .ref (aa G g 19) :: rest)) :=
  r_pi X w (hg.in (by decide)) hg.sh (k := 3) rfl rfl (by decide) inT2 tyX2 tyX2_ok nmX2 rfl kw136 rfl (ty := .int) (by decide +kernel) rfl rfl hd (fun H1 locs1 w1 => kk _ H1 locs1 rfl w1)
theorem gf3_197 (hg : HG g) (X : Cx p m c cc nL s args RX3 G) (w : Wh G s σ g ρ H locs) (hd : decode cc pc = .ok (.getfield 197, 3)) (kk : W p l e R s m args below meth c H locs cells slots Q (F0 m (pc + 3) ls (.int (ρ 19 0) :: rest))) : W p l e R s m args below meth c H locs cells slots Q (F0 m pc ls (.ref (aa G g 19) :: rest)) :=
  r_gv X w (hg.in (by decide)) hg.sh (k := 0) rfl rfl (by decide) inT2 rfl kw127 hd kk
theorem pf3_197 (hg : HG g) (X : Cx p m c cc nL s args RX3 G) (w : Wh G s σ g ρ H locs) {x : Int32} (hd : decode cc pc = .ok (.putfield 197, 3)) (kk : ∀ (ρ1 : Gr) (H1 : Heap) (locs1 : List Loc), ρ1 = up ρ 19 0 x → Wh G s σ g ρ1 H1 locs1 → W p l e R s m args below meth c H1 locs1 cells slots Q (F0 m (pc + 3) ls rest)) : W p l e R s m args below meth c H locs cells slots Q (F0 m pc ls (.int x :: .ref (aa G g 19) :: rest)) :=
  r_pi X w (hg.in (by decide)) hg.sh (k := 0) rfl rfl (by decide) inT2 tyX2 tyX2_ok nmX2 rfl kw127 rfl (ty := .int) (by decide +kernel) rfl rfl hd (fun H1 locs1 w1 => kk _ H1 locs1 rfl w1)
theorem gf3_200 (hg : HG g) (X : Cx p m c cc nL s args RX3 G) (w : Wh G s σ g ρ H locs) (hd : decode cc pc = .ok (.getfield 200, 3)) (kk : W p l e R s m args below meth c H locs cells slots Q (F0 m (pc + 3) ls (.ref (aa G g 8) :: rest))) : W p l e R s m args below meth c H locs cells slots Q (F0 m pc ls (.ref (aa G g 1) :: rest)) :=
  r_gv X w (hg.in (by decide)) hg.sh (k := 7) rfl rfl (by decide) inT0 rfl kw41 hd kk
theorem gf3_212 (hg : HG g) (X : Cx p m c cc nL s args RX3 G) (w : Wh G s σ g ρ H locs) (hd : decode cc pc = .ok (.getfield 212, 3)) (kk : W p l e R s m args below meth c H locs cells slots Q (F0 m (pc + 3) ls (.int (ρ 19 4) :: rest))) : W p l e R s m args below meth c H locs cells slots Q (F0 m pc ls (.ref (aa G g 19) :: rest)) :=
  r_gv X w (hg.in (by decide)) hg.sh (k := 4) rfl rfl (by decide) inT2 rfl kw138 hd kk
theorem pf3_212 (hg : HG g) (X : Cx p m c cc nL s args RX3 G) (w : Wh G s σ g ρ H locs) {x : Int32} (hd : decode cc pc = .ok (.putfield 212, 3)) (kk : ∀ (ρ1 : Gr) (H1 : Heap) (locs1 : List Loc), ρ1 = up ρ 19 4 x → Wh G s σ g ρ1 H1 locs1 → W p l e R s m args below meth c H1 locs1 cells slots Q (F0 m (pc + 3) ls rest)) : W p l e R s m args below meth c H locs cells slots Q (F0 m pc ls (.int x :: .ref (aa G g 19) :: rest)) :=
  r_pi X w (hg.in (by decide)) hg.sh (k := 4) rfl rfl (by decide) inT2 tyX2 tyX2_ok nmX2 rfl kw138 rfl (ty := .int) (by decide +kernel) rfl rfl hd (fun H1 locs1 w1 => kk _ H1 locs1 rfl w1)
theorem gf4_9 (hg : HG g) (X : Cx p m c cc nL s args RX4 G) (w : Wh G s σ g ρ H locs) (hd : decode cc pc = .ok (.getfield 9, 3)) (kk : W p l e R s m args below meth c H locs cells slots Q (F0 m (pc + 3) ls (.int (ρ 15 0) :: rest))) : W p l e R s m args below meth c H locs cells slots Q (F0 m pc ls (.ref (aa G g 15) :: rest)) :=
  r_gv X w (hg.in (by decide)) hg.sh (k := 0) rfl rfl (by decide) inT4 rfl kw101 hd kk
theorem pf4_9 (hg : HG g) (X : Cx p m c cc nL s args RX4 G) (w : Wh G s σ g ρ H locs) {x : Int32} (hd : decode cc pc = .ok (.putfield 9, 3)) (kk : ∀ (ρ1 : Gr) (H1 : Heap) (locs1 : List Loc), ρ1 = up ρ 15 0 x → Wh G s σ g ρ1 H1 locs1 → W p l e R s m args below meth c H1 locs1 cells slots Q (F0 m (pc + 3) ls rest)) : W p l e R s m args below meth c H locs cells slots Q (F0 m pc ls (.int x :: .ref (aa G g 15) :: rest)) :=
  r_pi X w (hg.in (by decide)) hg.sh (k := 0) rfl rfl (by decide) inT4 tyX4 tyX4_ok nmX4 rfl kw101 rfl (ty := .int) (by decide +kernel) rfl rfl hd (fun H1 locs1 w1 => kk _ H1 locs1 rfl w1)
theorem gf4_15 (hg : HG g) (X : Cx p m c cc nL s args RX4 G) (w : Wh G s σ g ρ H locs) (hd : decode cc pc = .ok (.getfield 15, 3)) (kk : W p l e R s m args below meth c H locs cells slots Q (F0 m (pc + 3) ls (.ref (aa G g 16) :: rest))) : W p l e R s m args below meth c H locs cells slots Q (F0 m pc ls (.ref (aa G g 15) :: rest)) :=
  r_gv X w (hg.in (by decide)) hg.sh (k := 1) rfl rfl (by decide) inT4 rfl kw104 hd kk
theorem gf4_19 (hg : HG g) (X : Cx p m c cc nL s args RX4 G) (w : Wh G s σ g ρ H locs) (hd : decode cc pc = .ok (.getfield 19, 3)) (kk : W p l e R s m args below meth c H locs cells slots Q (F0 m (pc + 3) ls (.ref (aa G g 17) :: rest))) : W p l e R s m args below meth c H locs cells slots Q (F0 m pc ls (.ref (aa G g 15) :: rest)) :=
  r_gv X w (hg.in (by decide)) hg.sh (k := 2) rfl rfl (by decide) inT4 rfl kw106 hd kk
theorem gf4_22 (hg : HG g) (X : Cx p m c cc nL s args RX4 G) (w : Wh G s σ g ρ H locs) (hd : decode cc pc = .ok (.getfield 22, 3)) (kk : W p l e R s m args below meth c H locs cells slots Q (F0 m (pc + 3) ls (.ref (aa G g 18) :: rest))) : W p l e R s m args below meth c H locs cells slots Q (F0 m pc ls (.ref (aa G g 15) :: rest)) :=
  r_gv X w (hg.in (by decide)) hg.sh (k := 3) rfl rfl (by decide) inT4 rfl kw108 hd kk
theorem gf5_9 (hg : HG g) (X : Cx p m c cc nL s args RX5 G) (w : Wh G s σ g ρ H locs) (hd : decode cc pc = .ok (.getfield 9, 3)) (kk : W p l e R s m args below meth c H locs cells slots Q (F0 m (pc + 3) ls (.int (ρ 9 0) :: rest))) : W p l e R s m args below meth c H locs cells slots Q (F0 m pc ls (.ref (aa G g 9) :: rest)) :=
  r_gv X w (hg.in (by decide)) hg.sh (k := 0) rfl rfl (by decide) inT5 rfl kw66 hd kk
theorem pf5_9 (hg : HG g) (X : Cx p m c cc nL s args RX5 G) (w : Wh G s σ g ρ H locs) {x : Int32} (hd : decode cc pc = .ok (.putfield 9, 3)) (kk : ∀ (ρ1 : Gr) (H1 : Heap) (locs1 : List Loc), ρ1 = up ρ 9 0 x → Wh G s σ g ρ1 H1 locs1 → W p l e R s m args below meth c H1 locs1 cells slots Q (F0 m (pc + 3) ls rest)) : W p l e R s m args below meth c H locs cells slots Q (F0 m pc ls (.int x :: .ref (aa G g 9) :: rest)) :=
  r_pi X w (hg.in (by decide)) hg.sh (k := 0) rfl rfl (by decide) inT5 tyX5 tyX5_ok nmX5 rfl kw66 rfl (ty := .int) (by decide +kernel) rfl rfl hd (fun H1 locs1 w1 => kk _ H1 locs1 rfl w1)
theorem gf5_15 (hg : HG g) (X : Cx p m c cc nL s args RX5 G) (w : Wh G s σ g ρ H locs) (hd : decode cc pc = .ok (.getfield 15, 3)) (kk : W p l e R s m args below meth c H locs cells slots Q (F0 m (pc + 3) ls (.ref (aa G g 10) :: rest))) : W p l e R s m args below meth c H locs cells slots Q (F0 m pc ls (.ref (aa G g 9) :: rest)) :=
  r_gv X w (hg.in (by decide)) hg.sh (k := 1) rfl rfl (by decide) inT5 rfl kw69 hd kk
theorem gf5_19 (hg : HG g) (X : Cx p m c cc nL s args RX5 G) (w : Wh G s σ g ρ H locs) (hd : decode cc pc = .ok (.getfield 19, 3)) (kk : W p l e R s m args below meth c H locs cells slots Q (F0 m (pc + 3) ls (.ref (aa G g 11) :: rest))) : W p l e R s m args below meth c H locs cells slots Q (F0 m pc ls (.ref (aa G g 9) :: rest)) :=
  r_gv X w (hg.in (by decide)) hg.sh (k := 2) rfl rfl (by decide) inT5 rfl kw71 hd kk
theorem gf5_22 (hg : HG g) (X : Cx p m c cc nL s args RX5 G) (w : Wh G s σ g ρ H locs) (hd : decode cc pc = .ok (.getfield 22, 3)) (kk : W p l e R s m args below meth c H locs cells slots Q (F0 m (pc + 3) ls (.ref (aa G g 12) :: rest))) : W p l e R s m args below meth c H locs cells slots Q (F0 m pc ls (.ref (aa G g 9) :: rest)) :=
  r_gv X w (hg.in (by decide)) hg.sh (k := 3) rfl rfl (by decide) inT5 rfl kw73 hd kk
theorem gf5_25 (hg : HG g) (X : Cx p m c cc nL s args RX5 G) (w : Wh G s σ g ρ H locs) (hd : decode cc pc = .ok (.getfield 25, 3)) (kk : W p l e R s m args below meth c H locs cells slots Q (F0 m (pc + 3) ls (.ref (aa G g 13) :: rest))) : W p l e R s m args below meth c H locs cells slots Q (F0 m pc ls (.ref (aa G g 9) :: rest)) :=
  r_gv X w (hg.in (by decide)) hg.sh (k := 4) rfl rfl (by decide) inT5 rfl kw75 hd kk
theorem gf5_28 (hg : HG g) (X : Cx p m c cc nL s args RX5 G) (w : Wh G s σ g ρ H locs) (hd : decode cc pc = .ok (.getfield 28, 3)) (kk : W p l e R s m args below meth c H locs cells slots Q (F0 m (pc + 3) ls (.ref (aa G g 14) :: rest))) : W p l e R s m args below meth c H locs cells slots Q (F0 m pc ls (.ref (aa G g 9) :: rest)) :=
  r_gv X w (hg.in (by decide)) hg.sh (k := 5) rfl rfl (by decide) inT5 rfl kw77 hd kk
theorem gf5_31 (hg : HG g) (X : Cx p m c cc nL s args RX5 G) (w : Wh G s σ g ρ H locs) (hd : decode cc pc = .ok (.getfield 31, 3)) (kk : W p l e R s m args below meth c H locs cells slots Q (F0 m (pc + 3) ls (.int (ρ 9 6) :: rest))) : W p l e R s m args below meth c H locs cells slots Q (F0 m pc ls (.ref (aa G g 9) :: rest)) :=
  r_gv X w (hg.in (by decide)) hg.sh (k := 6) rfl rfl (by decide) inT5 rfl kw79 hd kk
theorem pf5_31 (hg : HG g) (X : Cx p m c cc nL s args RX5 G) (w : Wh G s σ g ρ H locs) {x : Int32} (hd : decode cc pc = .ok (.putfield 31, 3)) (kk : ∀ (ρ1 : Gr) (H1 : Heap) (locs1 : List Loc), ρ1 = up ρ 9 6 x → Wh G s σ g ρ1 H1 locs1 → W p l e R s m args below meth c H1 locs1 cells slots Q (F0 m (pc + 3) ls rest)) : W p l e R s m args below meth c H locs cells slots Q (F0 m pc ls (.int x :: .ref (aa G g 9) :: rest)) :=
  r_pi X w (hg.in (by decide)) hg.sh (k := 6) rfl rfl (by decide) inT5 tyX5 tyX5_ok nmX5 rfl kw79 rfl (ty := .int) (by decide +kernel) rfl rfl hd (fun H1 locs1 w1 => kk _ H1 locs1 rfl w1)
theorem gf6_10 (X : Cx p m c cc nL s args RX6 G) (w : Wh G s σ 0 ρ H locs) (hd : decode cc pc = .ok (.getfield 10, 3)) (kk : W p l e R s m args below meth c H locs cells slots Q (F0 m (pc + 3) ls (.ref (aa G 1 0) :: rest))) : W p l e R s m args below meth c H locs cells slots Q (F0 m pc ls (.ref (aa G 0 0) :: rest)) :=
  r_gv X w m0_0 rfl (k := 0) rfl rfl (by decide) inT6 rfl kw241 hd kk
theorem gf6_16 (X : Cx p m c cc nL s args RX6 G) (w : Wh G s σ 0 ρ H locs) (hd : decode cc pc = .ok (.getfield 16, 3)) (kk : W p l e R s m args below meth c H locs cells slots Q (F0 m (pc + 3) ls (.ref (aa G 2 0) :: rest))) : W p l e R s m args below meth c H locs cells slots Q (F0 m pc ls (.ref (aa G 0 0) :: rest)) :=
  r_gv X w m0_0 rfl (k := 1) rfl rfl (by decide) inT6 rfl kw242 hd kk
theorem gf6_19 (X : Cx p m c cc nL s args RX6 G) (w : Wh G s σ 0 ρ H locs) (hd : decode cc pc = .ok (.getfield 19, 3)) (kk : W p l e R s m args below meth c H locs cells slots Q (F0 m (pc + 3) ls (.ref (aa G 3 0) :: rest))) : W p l e R s m args below meth c H locs cells slots Q (F0 m pc ls (.ref (aa G 0 0) :: rest)) :=
  r_gv X w m0_0 rfl (k := 2) rfl rfl (by decide) inT6 rfl kw243 hd kk
theorem gf6_22 (X : Cx p m c cc nL s args RX6 G) (w : Wh G s σ 0 ρ H locs) (hd : decode cc pc = .ok (.getfield 22, 3)) (kk : W p l e R s m args below meth c H locs cells slots Q (F0 m (pc + 3) ls (.int (ρ 0 3) :: rest))) : W p l e R s m args below meth c H locs cells slots Q (F0 m pc ls (.ref (aa G 0 0) :: rest)) :=
  r_gv X w m0_0 rfl (k := 3) rfl rfl (by decide) inT6 rfl kw244 hd kk
theorem pf6_22 (X : Cx p m c cc nL s args RX6 G) (w : Wh G s σ 0 ρ H locs) {x : Int32} (hz : isB x) (hd : decode cc pc = .ok (.putfield 22, 3)) (kk : ∀ (ρ1 : Gr) (H1 : Heap) (locs1 : List Loc), ρ1 = up ρ 0 3 x → Wh G s σ 0 ρ1 H1 locs1 → W p l e R s m args below meth c H1 locs1 cells slots Q (F0 m (pc + 3) ls rest)) : W p l e R s m args below meth c H locs cells slots Q (F0 m pc ls (.int x :: .ref (aa G 0 0) :: rest)) :=
  r_pi X w m0_0 rfl (k := 3) rfl rfl (by decide) inT6 tyX6 tyX6_ok nmX6 rfl kw244 rfl (ty := .boolean) (by decide +kernel) hz.n hz.f hd (fun H1 locs1 w1 => kk _ H1 locs1 rfl w1)
theorem gf6_29 (X : Cx p m c cc nL s args RX6 G) (w : Wh G s σ 0 ρ H locs) (hd : decode cc pc = .ok (.getfield 29, 3)) (kk : W p l e R s m args below meth c H locs cells slots Q (F0 m (pc + 3) ls (.ref (aa G 0 1) :: rest))) : W p l e R s m args below meth c H locs cells slots Q (F0 m pc ls (.ref (aa G 0 0) :: rest)) :=
  r_gv X w m0_0 rfl (k := 4) rfl rfl (by decide) inT6 rfl kw245 hd kk
theorem gf6_33 (X : Cx p m c cc nL s args RX6 G) (w : Wh G s σ 0 ρ H locs) (hd : decode cc pc = .ok (.getfield 33, 3)) (kk : W p l e R s m args below meth c H locs cells slots Q (F0 m (pc + 3) ls (.ref (aa G 0 3) :: rest))) : W p l e R s m args below meth c H locs cells slots Q (F0 m pc ls (.ref (aa G 0 0) :: rest)) :=
  r_gv X w m0_0 rfl (k := 5) rfl rfl (by decide) inT6 rfl kw246 hd kk
theorem gf6_37 (X : Cx p m c cc nL s args RX6 G) (w : Wh G s σ 0 ρ H locs) (hd : decode cc pc = .ok (.getfield 37, 3)) (kk : W p l e R s m args below meth c H locs cells slots Q (F0 m (pc + 3) ls (.int (ρ 0 6) :: rest))) : W p l e R s m args below meth c H locs cells slots Q (F0 m pc ls (.ref (aa G 0 0) :: rest)) :=
  r_gv X w m0_0 rfl (k := 6) rfl rfl (by decide) inT6 rfl kw247 hd kk
theorem pf6_37 (X : Cx p m c cc nL s args RX6 G) (w : Wh G s σ 0 ρ H locs) {x : Int32} (hd : decode cc pc = .ok (.putfield 37, 3)) (kk : ∀ (ρ1 : Gr) (H1 : Heap) (locs1 : List Loc), ρ1 = up ρ 0 6 x → Wh G s σ 0 ρ1 H1 locs1 → W p l e R s m args below meth c H1 locs1 cells slots Q (F0 m (pc + 3) ls rest)) : W p l e R s m args below meth c H locs cells slots Q (F0 m pc ls (.int x :: .ref (aa G 0 0) :: rest)) :=
  r_pi X w m0_0 rfl (k := 6) rfl rfl (by decide) inT6 tyX6 tyX6_ok nmX6 rfl kw247 rfl (ty := .int) (by decide +kernel) rfl rfl hd (fun H1 locs1 w1 => kk _ H1 locs1 rfl w1)
theorem gf6_41 (X : Cx p m c cc nL s args RX6 G) (w : Wh G s σ 0 ρ H locs) (hd : decode cc pc = .ok (.getfield 41, 3)) (kk : W p l e R s m args below meth c H locs cells slots Q (F0 m (pc + 3) ls (.ref (aa G 0 4) :: rest))) : W p l e R s m args below meth c H locs cells slots Q (F0 m pc ls (.ref (aa G 0 0) :: rest)) :=
  r_gv X w m0_0 rfl (k := 7) rfl rfl (by decide) inT6 rfl kw248 hd kk
theorem gf6_48 (X : Cx p m c cc nL s args RX6 G) (w : Wh G s σ 0 ρ H locs) (hd : decode cc pc = .ok (.getfield 48, 3)) (kk : W p l e R s m args below meth c H locs cells slots Q (F0 m (pc + 3) ls (.int (ρ 1 0) :: rest))) : W p l e R s m args below meth c H locs cells slots Q (F0 m pc ls (.ref (aa G 0 1) :: rest)) :=
  r_gv X w m0_1 rfl (k := 0) rfl rfl (by decide) inT1 rfl kw204 hd kk
theorem pf6_48 (X : Cx p m c cc nL s args RX6 G) (w : Wh G s σ 0 ρ H locs) {x : Int32} (hd : decode cc pc = .ok (.putfield 48, 3)) (kk : ∀ (ρ1 : Gr) (H1 : Heap) (locs1 : List Loc), ρ1 = up ρ 1 0 x → Wh G s σ 0 ρ1 H1 locs1 → W p l e R s m args below meth c H1 locs1 cells slots Q (F0 m (pc + 3) ls rest)) : W p l e R s m args below meth c H locs cells slots Q (F0 m pc ls (.int x :: .ref (aa G 0 1) :: rest)) :=
  r_pi X w m0_1 rfl (k := 0) rfl rfl (by decide) inT1 tyX1 tyX1_ok nmX1 rfl kw204 rfl (ty := .int) (by decide +kernel) rfl rfl hd (fun H1 locs1 w1 => kk _ H1 locs1 rfl w1)
theorem gf6_63 (hg : HG g) (X : Cx p m c cc nL s args RX6 G) (w : Wh G s σ g ρ H locs) (hd : decode cc pc = .ok (.getfield 63, 3)) (kk : W p l e R s m args below meth c H locs cells slots Q (F0 m (pc + 3) ls (.ref (aa G g 1) :: rest))) : W p l e R s m args below meth c H locs cells slots Q (F0 m pc ls (.ref (aa G g 0) :: rest)) :=
  r_gv X w (hg.in (by decide)) hg.sh (k := 0) rfl rfl (by decide) inT3 rfl kw151 hd kk
theorem gf6_88 (hg : HG g) (X : Cx p m c cc nL s args RX6 G) (w : Wh G s σ g ρ H locs) (hd : decode cc pc = .ok (.getfield 88, 3)) (kk : W p l e R s m args below meth c H locs cells slots Q (F0 m (pc + 3) ls (.ref (aa G g 9) :: rest))) : W p l e R s m args below meth c H locs cells slots Q (F0 m pc ls (.ref (aa G g 0) :: rest)) :=
  r_gv X w (hg.in (by decide)) hg.sh (k := 1) rfl rfl (by decide) inT3 rfl kw154 hd kk
theorem gf6_105 (hg : HG g) (X : Cx p m c cc nL s args RX6 G) (w : Wh G s σ g ρ H locs) (hd : decode cc pc = .ok (.getfield 105, 3)) (kk : W p l e R s m args below meth c H locs cells slots Q (F0 m (pc + 3) ls (.int (ρ 0 4) :: rest))) : W p l e R s m args below meth c H locs cells slots Q (F0 m pc ls (.ref (aa G g 0) :: rest)) :=
  r_gv X w (hg.in (by decide)) hg.sh (k := 4) rfl rfl (by decide) inT3 rfl kw160 hd kk
theorem pf6_105 (hg : HG g) (X : Cx p m c cc nL s args RX6 G) (w : Wh G s σ g ρ H locs) {x : Int32} (hd : decode cc pc = .ok (.putfield 105, 3)) (kk : ∀ (ρ1 : Gr) (H1 : Heap) (locs1 : List Loc), ρ1 = up ρ 0 4 x → Wh G s σ g ρ1 H1 locs1 → W p l e R s m args below meth c H1 locs1 cells slots Q (F0 m (pc + 3) ls rest)) : W p l e R s m args below meth c H locs cells slots Q (F0 m pc ls (.int x :: .ref (aa G g 0) :: rest)) :=
  r_pi X w (hg.in (by decide)) hg.sh (k := 4) rfl rfl (by decide) inT3 tyX3 tyX3_ok nmX3 rfl kw160 rfl (ty := .int) (by decide +kernel) rfl rfl hd (fun H1 locs1 w1 => kk _ H1 locs1 rfl w1)
theorem gf6_137 (hg : HG g) (X : Cx p m c cc nL s args RX6 G) (w : Wh G s σ g ρ H locs) (hd : decode cc pc = .ok (.getfield 137, 3)) (kk : W p l e R s m args below meth c H locs cells slots Q (F0 m (pc + 3) ls (.ref (aa G g 19) :: rest))) : W p l e R s m args below meth c H locs cells slots Q (F0 m pc ls (.ref (aa G g 0) :: rest)) :=
  r_gv X w (hg.in (by decide)) hg.sh (k := 3) rfl rfl (by decide) inT3 rfl kw158 hd kk
theorem gf6_147 (hg : HG g) (X : Cx p m c cc nL s args RX6 G) (w : Wh G s σ g ρ H locs) (hd : decode cc pc = .ok (.getfield 147, 3)) (kk : W p l e R s m args below meth c H locs cells slots Q (F0 m (pc + 3) ls (.int (ρ 1 0) :: rest))) : W p l e R s m args below meth c H locs cells slots Q (F0 m pc ls (.ref (aa G g 1) :: rest)) :=
  r_gv X w (hg.in (by decide)) hg.sh (k := 0) rfl rfl (by decide) inT0 rfl kw32 hd kk
theorem pf6_147 (hg : HG g) (X : Cx p m c cc nL s args RX6 G) (w : Wh G s σ g ρ H locs) {x : Int32} (hd : decode cc pc = .ok (.putfield 147, 3)) (kk : ∀ (ρ1 : Gr) (H1 : Heap) (locs1 : List Loc), ρ1 = up ρ 1 0 x → Wh G s σ g ρ1 H1 locs1 → W p l e R s m args below meth c H1 locs1 cells slots Q (F0 m (pc + 3) ls rest)) : W p l e R s m args below meth c H locs cells slots Q (F0 m pc ls (.int x :: .ref (aa G g 1) :: rest)) :=
  r_pi X w (hg.in (by decide)) hg.sh (k := 0) rfl rfl (by decide) inT0 tyX0 tyX0_ok nmX0 rfl kw32 rfl (ty := .int) (by decide +kernel) rfl rfl hd (fun H1 locs1 w1 => kk _ H1 locs1 rfl w1)
theorem gf6_157 (hg : HG g) (X : Cx p m c cc nL s args RX6 G) (w : Wh G s σ g ρ H locs) (hd : decode cc pc = .ok (.getfield 157, 3)) (kk : W p l e R s m args below meth c H locs cells slots Q (F0 m (pc + 3) ls (.int (ρ 19 1) :: rest))) : W p l e R s m args below meth c H locs cells slots Q (F0 m pc ls (.ref (aa G g 19) :: rest)) :=
  r_gv X w (hg.in (by decide)) hg.sh (k := 1) rfl rfl (by decide) inT2 rfl kw131 hd kk
theorem pf6_157 (hg : HG g) (X : Cx p m c cc nL s args RX6 G) (w : Wh G s σ g ρ H locs) {x : Int32} (hd : decode cc pc = .ok (.putfield 157, 3)) (kk : ∀ (ρ1 : Gr) (H1 : Heap) (locs1 : List Loc), ρ1 = up ρ 19 1 x → Wh G s σ g ρ1 H1 locs1 → W p l e R s m args below meth c H1 locs1 cells slots Q (F0 m (pc + 3) ls rest)) : W p l e R s m args below meth c H locs cells slots Q (F0 m pc ls (.int x :: .ref (aa G g 19) :: rest)) :=
  r_pi X w (hg.in (by decide)) hg.sh (k := 1) rfl rfl (by decide) inT2 tyX2 tyX2_ok nmX2 rfl kw131 rfl (ty := .int) (by decide +kernel) rfl rfl hd (fun H1 locs1 w1 => kk _ H1 locs1 rfl w1)
theorem gf6_166 (hg : HG g) (X : Cx p m c cc nL s args RX6 G) (w : Wh G s σ g ρ H locs) (hd : decode cc pc = .ok (.getfield 166, 3)) (kk : W p l e R s m args below meth c H locs cells slots Q (F0 m (pc + 3) ls (.int (ρ 0 6) :: rest))) : W p l e R s m args below meth c H locs cells slots Q (F0 m pc ls (.ref (aa G g 0) :: rest)) :=
  r_gv X w (hg.in (by decide)) hg.sh (k := 6) rfl rfl (by decide) inT3 rfl kw163 hd kk
theorem pf6_166 (hg : HG g) (X : Cx p m c cc nL s args RX6 G) (w : Wh G s σ g ρ H locs) {x : Int32} (hd : decode cc pc = .ok (.putfield 166, 3)) (kk : ∀ (ρ1 : Gr) (H1 : Heap) (locs1 : List Loc), ρ1 = up ρ 0 6 x → Wh G s σ g ρ1 H1 locs1 → W p l e R s m args below meth c H1 locs1 cells slots Q (F0 m (pc + 3) ls rest)) : W p l e R s m args below meth c H locs cells slots Q (F0 m pc ls (.int x :: .ref (aa G g 0) :: rest)) :=
  r_pi X w (hg.in (by decide)) hg.sh (k := 6) rfl rfl (by decide) inT3 tyX3 tyX3_ok nmX3 rfl kw163 rfl (ty := .int) (by decide +kernel) rfl rfl hd (fun H1 locs1 w1 => kk _ H1 locs1 rfl w1)
theorem gf6_189 (hg : HG g) (X : Cx p m c cc nL s args RX6 G) (w : Wh G s σ g ρ H locs) (hd : decode cc pc = .ok (.getfield 189, 3)) (kk : W p l e R s m args below meth c H locs cells slots Q (F0 m (pc + 3) ls (.int (ρ 19 2) :: rest))) : W p l e R s m args below meth c H locs cells slots Q (F0 m pc ls (.ref (aa G g 19) :: rest)) :=
  r_gv X w (hg.in (by decide)) hg.sh (k := 2) rfl rfl (by decide) inT2 rfl kw134 hd kk
theorem pf6_189 (hg : HG g) (X : Cx p m c cc nL s args RX6 G) (w : Wh G s σ g ρ H locs) {x : Int32} (hd : decode cc pc = .ok (.putfield 189, 3)) (kk : ∀ (ρ1 : Gr) (H1 : Heap) (locs1 : List Loc), ρ1 = up ρ 19 2 x → Wh G s σ g ρ1 H1 locs1 → W p l e R s m args below meth c H1 locs1 cells slots Q (F0 m (pc + 3) ls rest)) : W p l e R s m args below meth c H locs cells slots Q (F0 m pc ls (.int x :: .ref (aa G g 19) :: rest)) :=
  r_pi X w (hg.in (by decide)) hg.sh (k := 2) rfl rfl (by decide) inT2 tyX2 tyX2_ok nmX2 rfl kw134 rfl (ty := .int) (by decide +kernel) rfl rfl hd (fun H1 locs1 w1 => kk _ H1 locs1 rfl w1)
theorem gf6_192 (hg : HG g) (X : Cx p m c cc nL s args RX6 G) (w : Wh G s σ g ρ H locs) (hd : decode cc pc = .ok (.getfield 192, 3)) (kk : W p l e R s m args below meth c H locs cells slots Q (F0 m (pc + 3) ls (.int (ρ 19 0) :: rest))) : W p l e R s m args below meth c H locs cells slots Q (F0 m pc ls (.ref (aa G g 19) :: rest)) :=
  r_gv X w (hg.in (by decide)) hg.sh (k := 0) rfl rfl (by decide) inT2 rfl kw128 hd kk
theorem pf6_192 (hg : HG g) (X : Cx p m c cc nL s args RX6 G) (w : Wh G s σ g ρ H locs) {x : Int32} (hd : decode cc pc = .ok (.putfield 192, 3)) (kk : ∀ (ρ1 : Gr) (H1 : Heap) (locs1 : List Loc), ρ1 = up ρ 19 0 x → Wh G s σ g ρ1 H1 locs1 → W p l e R s m args below meth c H1 locs1 cells slots Q (F0 m (pc + 3) ls rest)) : W p l e R s m args below meth c H locs cells slots Q (F0 m pc ls (.int x :: .ref (aa G g 19) :: rest)) :=
  r_pi X w (hg.in (by decide)) hg.sh (k := 0) rfl rfl (by decide) inT2 tyX2 tyX2_ok nmX2 rfl kw128 rfl (ty := .int) (by decide +kernel) rfl rfl hd (fun H1 locs1 w1 => kk _ H1 locs1 rfl w1)
theorem gf6_195 (hg : HG g) (X : Cx p m c cc nL s args RX6 G) (w : Wh G s σ g ρ H locs) (hd : decode cc pc = .ok (.getfield 195, 3)) (kk : W p l e R s m args below meth c H locs cells slots Q (F0 m (pc + 3) ls (.int (ρ 9 0) :: rest))) : W p l e R s m args below meth c H locs cells slots Q (F0 m pc ls (.ref (aa G g 9) :: rest)) :=
  r_gv X w (hg.in (by decide)) hg.sh (k := 0) rfl rfl (by decide) inT5 rfl kw68 hd kk
theorem pf6_195 (hg : HG g) (X : Cx p m c cc nL s args RX6 G) (w : Wh G s σ g ρ H locs) {x : Int32} (hd : decode cc pc = .ok (.putfield 195, 3)) (kk : ∀ (ρ1 : Gr) (H1 : Heap) (locs1 : List Loc), ρ1 = up ρ 9 0 x → Wh G s σ g ρ1 H1 locs1 → W p l e R s m args below meth c H1 locs1 cells slots Q (F0 m (pc + 3) ls rest)) : W p l e R s m args below meth c H locs cells slots Q (F0 m pc ls (.int x :: .ref (aa G g 9) :: rest)) :=
  r_pi X w (hg.in (by decide)) hg.sh (k := 0) rfl rfl (by decide) inT5 tyX5 tyX5_ok nmX5 rfl kw68 rfl (ty := .int) (by decide +kernel) rfl rfl hd (fun H1 locs1 w1 => kk _ H1 locs1 rfl w1)
theorem gf6_196 (hg : HG g) (X : Cx p m c cc nL s args RX6 G) (w : Wh G s σ g ρ H locs) (hd : decode cc pc = .ok (.getfield 196, 3)) (kk : W p l e R s m args below meth c H locs cells slots Q (F0 m (pc + 3) ls (.ref (aa G g 15) :: rest))) : W p l e R s m args below meth c H locs cells slots Q (F0 m pc ls (.ref (aa G g 0) :: rest)) :=
  r_gv X w (hg.in (by decide)) hg.sh (k := 2) rfl rfl (by decide) inT3 rfl kw156 hd kk
theorem gf6_206 (hg : HG g) (X : Cx p m c cc nL s args RX6 G) (w : Wh G s σ g ρ H locs) (hd : decode cc pc = .ok (.getfield 206, 3)) (kk : W p l e R s m args below meth c H locs cells slots Q (F0 m (pc + 3) ls (.ref (aa G g 18) :: rest))) : W p l e R s m args below meth c H locs cells slots Q (F0 m pc ls (.ref (aa G g 15) :: rest)) :=
  r_gv X w (hg.in (by decide)) hg.sh (k := 3) rfl rfl (by decide) inT4 rfl kw110 hd kk
theorem gf6_220 (hg : HG g) (X : Cx p m c cc nL s args RX6 G) (w : Wh G s σ g ρ H locs) (hd : decode cc pc = .ok (.getfield 220, 3)) (kk : W p l e R s m args below meth c H locs cells slots Q (F0 m (pc + 3) ls (.int (ρ 0 9) :: rest))) : W p l e R s m args below meth c H locs cells slots Q (F0 m pc ls (.ref (aa G g 0) :: rest)) :=
  r_gv X w (hg.in (by decide)) hg.sh (k := 9) rfl rfl (by decide) inT3 rfl kw169 hd kk
theorem pf6_220 (hg : HG g) (X : Cx p m c cc nL s args RX6 G) (w : Wh G s σ g ρ H locs) {x : Int32} (hd : decode cc pc = .ok (.putfield 220, 3)) (kk : ∀ (ρ1 : Gr) (H1 : Heap) (locs1 : List Loc), ρ1 = up ρ 0 9 x → Wh G s σ g ρ1 H1 locs1 → W p l e R s m args below meth c H1 locs1 cells slots Q (F0 m (pc + 3) ls rest)) : W p l e R s m args below meth c H locs cells slots Q (F0 m pc ls (.int x :: .ref (aa G g 0) :: rest)) :=
  r_pi X w (hg.in (by decide)) hg.sh (k := 9) rfl rfl (by decide) inT3 tyX3 tyX3_ok nmX3 rfl kw169 rfl (ty := .int) (by decide +kernel) rfl rfl hd (fun H1 locs1 w1 => kk _ H1 locs1 rfl w1)
theorem gf6_226 (hg : HG g) (X : Cx p m c cc nL s args RX6 G) (w : Wh G s σ g ρ H locs) (hd : decode cc pc = .ok (.getfield 226, 3)) (kk : W p l e R s m args below meth c H locs cells slots Q (F0 m (pc + 3) ls (.int (ρ 15 0) :: rest))) : W p l e R s m args below meth c H locs cells slots Q (F0 m pc ls (.ref (aa G g 15) :: rest)) :=
  r_gv X w (hg.in (by decide)) hg.sh (k := 0) rfl rfl (by decide) inT4 rfl kw103 hd kk
theorem pf6_226 (hg : HG g) (X : Cx p m c cc nL s args RX6 G) (w : Wh G s σ g ρ H locs) {x : Int32} (hd : decode cc pc = .ok (.putfield 226, 3)) (kk : ∀ (ρ1 : Gr) (H1 : Heap) (locs1 : List Loc), ρ1 = up ρ 15 0 x → Wh G s σ g ρ1 H1 locs1 → W p l e R s m args below meth c H1 locs1 cells slots Q (F0 m (pc + 3) ls rest)) : W p l e R s m args below meth c H locs cells slots Q (F0 m pc ls (.int x :: .ref (aa G g 15) :: rest)) :=
  r_pi X w (hg.in (by decide)) hg.sh (k := 0) rfl rfl (by decide) inT4 tyX4 tyX4_ok nmX4 rfl kw103 rfl (ty := .int) (by decide +kernel) rfl rfl hd (fun H1 locs1 w1 => kk _ H1 locs1 rfl w1)
theorem gf6_230 (hg : HG g) (X : Cx p m c cc nL s args RX6 G) (w : Wh G s σ g ρ H locs) (hd : decode cc pc = .ok (.getfield 230, 3)) (kk : W p l e R s m args below meth c H locs cells slots Q (F0 m (pc + 3) ls (.int (ρ 0 7) :: rest))) : W p l e R s m args below meth c H locs cells slots Q (F0 m pc ls (.ref (aa G g 0) :: rest)) :=
  r_gv X w (hg.in (by decide)) hg.sh (k := 7) rfl rfl (by decide) inT3 rfl kw165 hd kk
theorem pf6_230 (hg : HG g) (X : Cx p m c cc nL s args RX6 G) (w : Wh G s σ g ρ H locs) {x : Int32} (hd : decode cc pc = .ok (.putfield 230, 3)) (kk : ∀ (ρ1 : Gr) (H1 : Heap) (locs1 : List Loc), ρ1 = up ρ 0 7 x → Wh G s σ g ρ1 H1 locs1 → W p l e R s m args below meth c H1 locs1 cells slots Q (F0 m (pc + 3) ls rest)) : W p l e R s m args below meth c H locs cells slots Q (F0 m pc ls (.int x :: .ref (aa G g 0) :: rest)) :=
  r_pi X w (hg.in (by decide)) hg.sh (k := 7) rfl rfl (by decide) inT3 tyX3 tyX3_ok nmX3 rfl kw165 rfl (ty := .int) (by decide +kernel) rfl rfl hd (fun H1 locs1 w1 => kk _ H1 locs1 rfl w1)
theorem gf6_233 (hg : HG g) (X : Cx p m c cc nL s args RX6 G) (w : Wh G s σ g ρ H locs) (hd : decode cc pc = .ok (.getfield 233, 3)) (kk : W p l e R s m args below meth c H locs cells slots Q (F0 m (pc + 3) ls (.int (ρ 0 8) :: rest))) : W p l e R s m args below meth c H locs cells slots Q (F0 m pc ls (.ref (aa G g 0) :: rest)) :=
  r_gv X w (hg.in (by decide)) hg.sh (k := 8) rfl rfl (by decide) inT3 rfl kw167 hd kk
theorem pf6_233 (hg : HG g) (X : Cx p m c cc nL s args RX6 G) (w : Wh G s σ g ρ H locs) {x : Int32} (hd : decode cc pc = .ok (.putfield 233, 3)) (kk : ∀ (ρ1 : Gr) (H1 : Heap) (locs1 : List Loc), ρ1 = up ρ 0 8 x → Wh G s σ g ρ1 H1 locs1 → W p l e R s m args below meth c H1 locs1 cells slots Q (F0 m (pc + 3) ls rest)) : W p l e R s m args below meth c H locs cells slots Q (F0 m pc ls (.int x :: .ref (aa G g 0) :: rest)) :=
  r_pi X w (hg.in (by decide)) hg.sh (k := 8) rfl rfl (by decide) inT3 tyX3 tyX3_ok nmX3 rfl kw167 rfl (ty := .int) (by decide +kernel) rfl rfl hd (fun H1 locs1 w1 => kk _ H1 locs1 rfl w1)
theorem gf7_7 (X : Cx p m c cc nL s args RX7 G) (w : Wh G s σ 4 ρ H locs) (hd : decode cc pc = .ok (.getfield 7, 3)) (kk : W p l e R s m args below meth c H locs cells slots Q (F0 m (pc + 3) ls (.ref (aa G 4 1) :: rest))) : W p l e R s m args below meth c H locs cells slots Q (F0 m pc ls (.ref (aa G 4 0) :: rest)) :=
  r_gv X w m4_0 rfl (k := 1) rfl rfl (by decide) inT7 rfl kw702 hd kk
theorem gf7_13 (X : Cx p m c cc nL s args RX7 G) (w : Wh G s σ 4 ρ H locs) (hd : decode cc pc = .ok (.getfield 13, 3)) (kk : W p l e R s m args below meth c H locs cells slots Q (F0 m (pc + 3) ls (.ref (aa G 4 2) :: rest))) : W p l e R s m args below meth c H locs cells slots Q (F0 m pc ls (.ref (aa G 4 0) :: rest)) :=
  r_gv X w m4_0 rfl (k := 2) rfl rfl (by decide) inT7 rfl kw703 hd kk
theorem gf7_16 (X : Cx p m c cc nL s args RX7 G) (w : Wh G s σ 4 ρ H locs) (hd : decode cc pc = .ok (.getfield 16, 3)) (kk : W p l e R s m args below meth c H locs cells slots Q (F0 m (pc + 3) ls (.ref (aa G 4 3) :: rest))) : W p l e R s m args below meth c H locs cells slots Q (F0 m pc ls (.ref (aa G 4 0) :: rest)) :=
  r_gv X w m4_0 rfl (k := 3) rfl rfl (by decide) inT7 rfl kw704 hd kk
theorem gf7_19 (X : Cx p m c cc nL s args RX7 G) (w : Wh G s σ 4 ρ H locs) (hd : decode cc pc = .ok (.getfield 19, 3)) (kk : W p l e R s m args below meth c H locs cells slots Q (F0 m (pc + 3) ls (.ref (aa G 4 4) :: rest))) : W p l e R s m args below meth c H locs cells slots Q (F0 m pc ls (.ref (aa G 4 0) :: rest)) :=
  r_gv X w m4_0 rfl (k := 4) rfl rfl (by decide) inT7 rfl kw705 hd kk
theorem gf7_22 (X : Cx p m c cc nL s args RX7 G) (w : Wh G s σ 4 ρ H locs) (hd : decode cc pc = .ok (.getfield 22, 3)) (kk : W p l e R s m args below meth c H locs cells slots Q (F0 m (pc + 3) ls (.ref (aa G 4 5) :: rest))) : W p l e R s m args below meth c H locs cells slots Q (F0 m pc ls (.ref (aa G 4 0) :: rest)) :=
  r_gv X w m4_0 rfl (k := 5) rfl rfl (by decide) inT7 rfl kw706 hd kk
theorem gf7_25 (X : Cx p m c cc nL s args RX7 G) (w : Wh G s σ 4 ρ H locs) (hd : decode cc pc = .ok (.getfield 25, 3)) (kk : W p l e R s m args below meth c H locs cells slots Q (F0 m (pc + 3) ls (.ref (aa G 4 6) :: rest))) : W p l e R s m args below meth c H locs cells slots Q (F0 m pc ls (.ref (aa G 4 0) :: rest)) :=
  r_gv X w m4_0 rfl (k := 6) rfl rfl (by decide) inT7 rfl kw707 hd kk
theorem gf7_28 (X : Cx p m c cc nL s args RX7 G) (w : Wh G s σ 4 ρ H locs) (hd : decode cc pc = .ok (.getfield 28, 3)) (kk : W p l e R s m args below meth c H locs cells slots Q (F0 m (pc + 3) ls (.ref (aa G 4 7) :: rest))) : W p l e R s m args below meth c H locs cells slots Q (F0 m pc ls (.ref (aa G 4 0) :: rest)) :=
  r_gv X w m4_0 rfl (k := 7) rfl rfl (by decide) inT7 rfl kw708 hd kk
theorem gf7_31 (X : Cx p m c cc nL s args RX7 G) (w : Wh G s σ 4 ρ H locs) (hd : decode cc pc = .ok (.getfield 31, 3)) (kk : W p l e R s m args below meth c H locs cells slots Q (F0 m (pc + 3) ls (.ref (aa G 4 9) :: rest))) : W p l e R s m args below meth c H locs cells slots Q (F0 m pc ls (.ref (aa G 4 0) :: rest)) :=
  r_gv X w m4_0 rfl (k := 9) rfl rfl (by decide) inT7 rfl kw710 hd kk
theorem gf7_34 (X : Cx p m c cc nL s args RX7 G) (w : Wh G s σ 4 ρ H locs) (hd : decode cc pc = .ok (.getfield 34, 3)) (kk : W p l e R s m args below meth c H locs cells slots Q (F0 m (pc + 3) ls (.ref (aa G 4 10) :: rest))) : W p l e R s m args below meth c H locs cells slots Q (F0 m pc ls (.ref (aa G 4 0) :: rest)) :=
  r_gv X w m4_0 rfl (k := 10) rfl rfl (by decide) inT7 rfl kw711 hd kk
theorem gf7_37 (X : Cx p m c cc nL s args RX7 G) (w : Wh G s σ 4 ρ H locs) (hd : decode cc pc = .ok (.getfield 37, 3)) (kk : W p l e R s m args below meth c H locs cells slots Q (F0 m (pc + 3) ls (.ref (aa G 4 11) :: rest))) : W p l e R s m args below meth c H locs cells slots Q (F0 m pc ls (.ref (aa G 4 0) :: rest)) :=
  r_gv X w m4_0 rfl (k := 11) rfl rfl (by decide) inT7 rfl kw712 hd kk
theorem gf7_40 (X : Cx p m c cc nL s args RX7 G) (w : Wh G s σ 4 ρ H locs) (hd : decode cc pc = .ok (.getfield 40, 3)) (kk : W p l e R s m args below meth c H locs cells slots Q (F0 m (pc + 3) ls (.ref (aa G 4 12) :: rest))) : W p l e R s m args below meth c H locs cells slots Q (F0 m pc ls (.ref (aa G 4 0) :: rest)) :=
  r_gv X w m4_0 rfl (k := 12) rfl rfl (by decide) inT7 rfl kw713 hd kk
theorem gf7_43 (X : Cx p m c cc nL s args RX7 G) (w : Wh G s σ 4 ρ H locs) (hd : decode cc pc = .ok (.getfield 43, 3)) (kk : W p l e R s m args below meth c H locs cells slots Q (F0 m (pc + 3) ls (.ref (aa G 4 13) :: rest))) : W p l e R s m args below meth c H locs cells slots Q (F0 m pc ls (.ref (aa G 4 0) :: rest)) :=
  r_gv X w m4_0 rfl (k := 13) rfl rfl (by decide) inT7 rfl kw714 hd kk
theorem gf7_46 (X : Cx p m c cc nL s args RX7 G) (w : Wh G s σ 4 ρ H locs) (hd : decode cc pc = .ok (.getfield 46, 3)) (kk : W p l e R s m args below meth c H locs cells slots Q (F0 m (pc + 3) ls (.ref (aa G 4 14) :: rest))) : W p l e R s m args below meth c H locs cells slots Q (F0 m pc ls (.ref (aa G 4 0) :: rest)) :=
  r_gv X w m4_0 rfl (k := 14) rfl rfl (by decide) inT7 rfl kw715 hd kk
theorem gf7_50 (X : Cx p m c cc nL s args RX7 G) (w : Wh G s σ 4 ρ H locs) (hd : decode cc pc = .ok (.getfield 50, 3)) (kk : W p l e R s m args below meth c H locs cells slots Q (F0 m (pc + 3) ls (.ref (aa G 4 16) :: rest))) : W p l e R s m args below meth c H locs cells slots Q (F0 m pc ls (.ref (aa G 4 0) :: rest)) :=
  r_gv X w m4_0 rfl (k := 16) rfl rfl (by decide) inT7 rfl kw717 hd kk
theorem gf7_53 (X : Cx p m c cc nL s args RX7 G) (w : Wh G s σ 4 ρ H locs) (hd : decode cc pc = .ok (.getfield 53, 3)) (kk : W p l e R s m args below meth c H locs cells slots Q (F0 m (pc + 3) ls (.ref (aa G 4 17) :: rest))) : W p l e R s m args below meth c H locs cells slots Q (F0 m pc ls (.ref (aa G 4 0) :: rest)) :=
  r_gv X w m4_0 rfl (k := 17) rfl rfl (by decide) inT7 rfl kw718 hd kk
theorem gf7_56 (X : Cx p m c cc nL s args RX7 G) (w : Wh G s σ 4 ρ H locs) (hd : decode cc pc = .ok (.getfield 56, 3)) (kk : W p l e R s m args below meth c H locs cells slots Q (F0 m (pc + 3) ls (.ref (aa G 4 18) :: rest))) : W p l e R s m args below meth c H locs cells slots Q (F0 m pc ls (.ref (aa G 4 0) :: rest)) :=
  r_gv X w m4_0 rfl (k := 18) rfl rfl (by decide) inT7 rfl kw719 hd kk
theorem gf7_59 (X : Cx p m c cc nL s args RX7 G) (w : Wh G s σ 4 ρ H locs) (hd : decode cc pc = .ok (.getfield 59, 3)) (kk : W p l e R s m args below meth c H locs cells slots Q (F0 m (pc + 3) ls (.ref (aa G 4 19) :: rest))) : W p l e R s m args below meth c H locs cells slots Q (F0 m pc ls (.ref (aa G 4 0) :: rest)) :=
  r_gv X w m4_0 rfl (k := 19) rfl rfl (by decide) inT7 rfl kw720 hd kk
theorem gf7_62 (X : Cx p m c cc nL s args RX7 G) (w : Wh G s σ 4 ρ H locs) (hd : decode cc pc = .ok (.getfield 62, 3)) (kk : W p l e R s m args below meth c H locs cells slots Q (F0 m (pc + 3) ls (.int (ρ 0 20) :: rest))) : W p l e R s m args below meth c H locs cells slots Q (F0 m pc ls (.ref (aa G 4 0) :: rest)) :=
  r_gv X w m4_0 rfl (k := 20) rfl rfl (by decide) inT7 rfl kw721 hd kk
theorem pf7_62 (X : Cx p m c cc nL s args RX7 G) (w : Wh G s σ 4 ρ H locs) {x : Int32} (hd : decode cc pc = .ok (.putfield 62, 3)) (kk : ∀ (ρ1 : Gr) (H1 : Heap) (locs1 : List Loc), ρ1 = up ρ 0 20 x → Wh G s σ 4 ρ1 H1 locs1 → W p l e R s m args below meth c H1 locs1 cells slots Q (F0 m (pc + 3) ls rest)) : W p l e R s m args below meth c H locs cells slots Q (F0 m pc ls (.int x :: .ref (aa G 4 0) :: rest)) :=
  r_pi X w m4_0 rfl (k := 20) rfl rfl (by decide) inT7 tyX7 tyX7_ok nmX7 rfl kw721 rfl (ty := .int) (by decide +kernel) rfl rfl hd (fun H1 locs1 w1 => kk _ H1 locs1 rfl w1)
theorem gf7_66 (X : Cx p m c cc nL s args RX7 G) (w : Wh G s σ 4 ρ H locs) (hd : decode cc pc = .ok (.getfield 66, 3)) (kk : W p l e R s m args below meth c H locs cells slots Q (F0 m (pc + 3) ls (.int (ρ 0 25) :: rest))) : W p l e R s m args below meth c H locs cells slots Q (F0 m pc ls (.ref (aa G 4 0) :: rest)) :=
  r_gv X w m4_0 rfl (k := 25) rfl rfl (by decide) inT7 rfl kw726 hd kk
theorem pf7_66 (X : Cx p m c cc nL s args RX7 G) (w : Wh G s σ 4 ρ H locs) {x : Int32} (hd : decode cc pc = .ok (.putfield 66, 3)) (kk : ∀ (ρ1 : Gr) (H1 : Heap) (locs1 : List Loc), ρ1 = up ρ 0 25 x → Wh G s σ 4 ρ1 H1 locs1 → W p l e R s m args below meth c H1 locs1 cells slots Q (F0 m (pc + 3) ls rest)) : W p l e R s m args below meth c H locs cells slots Q (F0 m pc ls (.int x :: .ref (aa G 4 0) :: rest)) :=
  r_pi X w m4_0 rfl (k := 25) rfl rfl (by decide) inT7 tyX7 tyX7_ok nmX7 rfl kw726 rfl (ty := .int) (by decide +kernel) rfl rfl hd (fun H1 locs1 w1 => kk _ H1 locs1 rfl w1)
theorem gf7_69 (X : Cx p m c cc nL s args RX7 G) (w : Wh G s σ 4 ρ H locs) (hd : decode cc pc = .ok (.getfield 69, 3)) (kk : W p l e R s m args below meth c H locs cells slots Q (F0 m (pc + 3) ls (.int (ρ 0 28) :: rest))) : W p l e R s m args below meth c H locs cells slots Q (F0 m pc ls (.ref (aa G 4 0) :: rest)) :=
  r_gv X w m4_0 rfl (k := 28) rfl rfl (by decide) inT7 rfl kw729 hd kk
theorem pf7_69 (X : Cx p m c cc nL s args RX7 G) (w : Wh G s σ 4 ρ H locs) {x : Int32} (hd : decode cc pc = .ok (.putfield 69, 3)) (kk : ∀ (ρ1 : Gr) (H1 : Heap) (locs1 : List Loc), ρ1 = up ρ 0 28 x → Wh G s σ 4 ρ1 H1 locs1 → W p l e R s m args below meth c H1 locs1 cells slots Q (F0 m (pc + 3) ls rest)) : W p l e R s m args below meth c H locs cells slots Q (F0 m pc ls (.int x :: .ref (aa G 4 0) :: rest)) :=
  r_pi X w m4_0 rfl (k := 28) rfl rfl (by decide) inT7 tyX7 tyX7_ok nmX7 rfl kw729 rfl (ty := .int) (by decide +kernel) rfl rfl hd (fun H1 locs1 w1 => kk _ H1 locs1 rfl w1)
theorem gf7_72 (X : Cx p m c cc nL s args RX7 G) (w : Wh G s σ 4 ρ H locs) (hd : decode cc pc = .ok (.getfield 72, 3)) (kk : W p l e R s m args below meth c H locs cells slots Q (F0 m (pc + 3) ls (.ref (aa G 4 29) :: rest))) : W p l e R s m args below meth c H locs cells slots Q (F0 m pc ls (.ref (aa G 4 0) :: rest)) :=
  r_gv X w m4_0 rfl (k := 29) rfl rfl (by decide) inT7 rfl kw730 hd kk
theorem gf7_75 (X : Cx p m c cc nL s args RX7 G) (w : Wh G s σ 4 ρ H locs) (hd : decode cc pc = .ok (.getfield 75, 3)) (kk : W p l e R s m args below meth c H locs cells slots Q (F0 m (pc + 3) ls (.ref (aa G 4 31) :: rest))) : W p l e R s m args below meth c H locs cells slots Q (F0 m pc ls (.ref (aa G 4 0) :: rest)) :=
  r_gv X w m4_0 rfl (k := 31) rfl rfl (by decide) inT7 rfl kw732 hd kk
theorem gf7_78 (X : Cx p m c cc nL s args RX7 G) (w : Wh G s σ 4 ρ H locs) (hd : decode cc pc = .ok (.getfield 78, 3)) (kk : W p l e R s m args below meth c H locs cells slots Q (F0 m (pc + 3) ls (.ref (aa G 4 33) :: rest))) : W p l e R s m args below meth c H locs cells slots Q (F0 m pc ls (.ref (aa G 4 0) :: rest)) :=
  r_gv X w m4_0 rfl (k := 33) rfl rfl (by decide) inT7 rfl kw734 hd kk
theorem gf7_81 (X : Cx p m c cc nL s args RX7 G) (w : Wh G s σ 4 ρ H locs) (hd : decode cc pc = .ok (.getfield 81, 3)) (kk : W p l e R s m args below meth c H locs cells slots Q (F0 m (pc + 3) ls (.int (ρ 0 34) :: rest))) : W p l e R s m args below meth c H locs cells slots Q (F0 m pc ls (.ref (aa G 4 0) :: rest)) :=
  r_gv X w m4_0 rfl (k := 34) rfl rfl (by decide) inT7 rfl kw735 hd kk
theorem pf7_81 (X : Cx p m c cc nL s args RX7 G) (w : Wh G s σ 4 ρ H locs) {x : Int32} (hd : decode cc pc = .ok (.putfield 81, 3)) (kk : ∀ (ρ1 : Gr) (H1 : Heap) (locs1 : List Loc), ρ1 = up ρ 0 34 x → Wh G s σ 4 ρ1 H1 locs1 → W p l e R s m args below meth c H1 locs1 cells slots Q (F0 m (pc + 3) ls rest)) : W p l e R s m args below meth c H locs cells slots Q (F0 m pc ls (.int x :: .ref (aa G 4 0) :: rest)) :=
  r_pi X w m4_0 rfl (k := 34) rfl rfl (by decide) inT7 tyX7 tyX7_ok nmX7 rfl kw735 rfl (ty := .int) (by decide +kernel) rfl rfl hd (fun H1 locs1 w1 => kk _ H1 locs1 rfl w1)
theorem gf7_84 (X : Cx p m c cc nL s args RX7 G) (w : Wh G s σ 4 ρ H locs) (hd : decode cc pc = .ok (.getfield 84, 3)) (kk : W p l e R s m args below meth c H locs cells slots Q (F0 m (pc + 3) ls (.ref (aa G 4 35) :: rest))) : W p l e R s m args below meth c H locs cells slots Q (F0 m pc ls (.ref (aa G 4 0) :: rest)) :=
  r_gv X w m4_0 rfl (k := 35) rfl rfl (by decide) inT7 rfl kw736 hd kk
theorem gf7_87 (X : Cx p m c cc nL s args RX7 G) (w : Wh G s σ 4 ρ H locs) (hd : decode cc pc = .ok (.getfield 87, 3)) (kk : W p l e R s m args below meth c H locs cells slots Q (F0 m (pc + 3) ls (.ref (aa G 4 38) :: rest))) : W p l e R s m args below meth c H locs cells slots Q (F0 m pc ls (.ref (aa G 4 0) :: rest)) :=
  r_gv X w m4_0 rfl (k := 38) rfl rfl (by decide) inT7 rfl kw739 hd kk
theorem gf7_90 (X : Cx p m c cc nL s args RX7 G) (w : Wh G s σ 4 ρ H locs) (hd : decode cc pc = .ok (.getfield 90, 3)) (kk : W p l e R s m args below meth c H locs cells slots Q (F0 m (pc + 3) ls (.ref (aa G 4 39) :: rest))) : W p l e R s m args below meth c H locs cells slots Q (F0 m pc ls (.ref (aa G 4 0) :: rest)) :=
  r_gv X w m4_0 rfl (k := 39) rfl rfl (by decide) inT7 rfl kw740 hd kk
theorem gf7_93 (X : Cx p m c cc nL s args RX7 G) (w : Wh G s σ 4 ρ H locs) (hd : decode cc pc = .ok (.getfield 93, 3)) (kk : W p l e R s m args below meth c H locs cells slots Q (F0 m (pc + 3) ls (.ref (aa G 4 47) :: rest))) : W p l e R s m args below meth c H locs cells slots Q (F0 m pc ls (.ref (aa G 4 0) :: rest)) :=
  r_gv X w m4_0 rfl (k := 47) rfl rfl (by decide) inT7 rfl kw748 hd kk
theorem gf7_96 (X : Cx p m c cc nL s args RX7 G) (w : Wh G s σ 4 ρ H locs) (hd : decode cc pc = .ok (.getfield 96, 3)) (kk : W p l e R s m args below meth c H locs cells slots Q (F0 m (pc + 3) ls (.ref (aa G 4 48) :: rest))) : W p l e R s m args below meth c H locs cells slots Q (F0 m pc ls (.ref (aa G 4 0) :: rest)) :=
  r_gv X w m4_0 rfl (k := 48) rfl rfl (by decide) inT7 rfl kw749 hd kk
theorem gf7_99 (X : Cx p m c cc nL s args RX7 G) (w : Wh G s σ 4 ρ H locs) (hd : decode cc pc = .ok (.getfield 99, 3)) (kk : W p l e R s m args below meth c H locs cells slots Q (F0 m (pc + 3) ls (.ref (aa G 4 49) :: rest))) : W p l e R s m args below meth c H locs cells slots Q (F0 m pc ls (.ref (aa G 4 0) :: rest)) :=
  r_gv X w m4_0 rfl (k := 49) rfl rfl (by decide) inT7 rfl kw750 hd kk
theorem gf7_102 (X : Cx p m c cc nL s args RX7 G) (w : Wh G s σ 4 ρ H locs) (hd : decode cc pc = .ok (.getfield 102, 3)) (kk : W p l e R s m args below meth c H locs cells slots Q (F0 m (pc + 3) ls (.ref (aa G 4 50) :: rest))) : W p l e R s m args below meth c H locs cells slots Q (F0 m pc ls (.ref (aa G 4 0) :: rest)) :=
  r_gv X w m4_0 rfl (k := 50) rfl rfl (by decide) inT7 rfl kw751 hd kk
theorem gf7_105 (X : Cx p m c cc nL s args RX7 G) (w : Wh G s σ 4 ρ H locs) (hd : decode cc pc = .ok (.getfield 105, 3)) (kk : W p l e R s m args below meth c H locs cells slots Q (F0 m (pc + 3) ls (.ref (aa G 4 52) :: rest))) : W p l e R s m args below meth c H locs cells slots Q (F0 m pc ls (.ref (aa G 4 0) :: rest)) :=
  r_gv X w m4_0 rfl (k := 52) rfl rfl (by decide) inT7 rfl kw753 hd kk
theorem gf7_108 (X : Cx p m c cc nL s args RX7 G) (w : Wh G s σ 4 ρ H locs) (hd : decode cc pc = .ok (.getfield 108, 3)) (kk : W p l e R s m args below meth c H locs cells slots Q (F0 m (pc + 3) ls (.int (ρ 0 30) :: rest))) : W p l e R s m args below meth c H locs cells slots Q (F0 m pc ls (.ref (aa G 4 0) :: rest)) :=
  r_gv X w m4_0 rfl (k := 30) rfl rfl (by decide) inT7 rfl kw731 hd kk
theorem pf7_108 (X : Cx p m c cc nL s args RX7 G) (w : Wh G s σ 4 ρ H locs) {x : Int32} (hd : decode cc pc = .ok (.putfield 108, 3)) (kk : ∀ (ρ1 : Gr) (H1 : Heap) (locs1 : List Loc), ρ1 = up ρ 0 30 x → Wh G s σ 4 ρ1 H1 locs1 → W p l e R s m args below meth c H1 locs1 cells slots Q (F0 m (pc + 3) ls rest)) : W p l e R s m args below meth c H locs cells slots Q (F0 m pc ls (.int x :: .ref (aa G 4 0) :: rest)) :=
  r_pi X w m4_0 rfl (k := 30) rfl rfl (by decide) inT7 tyX7 tyX7_ok nmX7 rfl kw731 rfl (ty := .int) (by decide +kernel) rfl rfl hd (fun H1 locs1 w1 => kk _ H1 locs1 rfl w1)
theorem gf7_111 (X : Cx p m c cc nL s args RX7 G) (w : Wh G s σ 4 ρ H locs) (hd : decode cc pc = .ok (.getfield 111, 3)) (kk : W p l e R s m args below meth c H locs cells slots Q (F0 m (pc + 3) ls (.int (ρ 0 0) :: rest))) : W p l e R s m args below meth c H locs cells slots Q (F0 m pc ls (.ref (aa G 4 0) :: rest)) :=
  r_gv X w m4_0 rfl (k := 0) rfl rfl (by decide) inT7 rfl kw701 hd kk
theorem pf7_111 (X : Cx p m c cc nL s args RX7 G) (w : Wh G s σ 4 ρ H locs) {x : Int32} (hd : decode cc pc = .ok (.putfield 111, 3)) (kk : ∀ (ρ1 : Gr) (H1 : Heap) (locs1 : List Loc), ρ1 = up ρ 0 0 x → Wh G s σ 4 ρ1 H1 locs1 → W p l e R s m args below meth c H1 locs1 cells slots Q (F0 m (pc + 3) ls rest)) : W p l e R s m args below meth c H locs cells slots Q (F0 m pc ls (.int x :: .ref (aa G 4 0) :: rest)) :=
  r_pi X w m4_0 rfl (k := 0) rfl rfl (by decide) inT7 tyX7 tyX7_ok nmX7 rfl kw701 rfl (ty := .int) (by decide +kernel) rfl rfl hd (fun H1 locs1 w1 => kk _ H1 locs1 rfl w1)
theorem gf7_132 (X : Cx p m c cc nL s args RX7 G) (w : Wh G s σ 4 ρ H locs) (hd : decode cc pc = .ok (.getfield 132, 3)) (kk : W p l e R s m args below meth c H locs cells slots Q (F0 m (pc + 3) ls (.int (ρ 0 8) :: rest))) : W p l e R s m args below meth c H locs cells slots Q (F0 m pc ls (.ref (aa G 4 0) :: rest)) :=
  r_gv X w m4_0 rfl (k := 8) rfl rfl (by decide) inT7 rfl kw709 hd kk
theorem pf7_132 (X : Cx p m c cc nL s args RX7 G) (w : Wh G s σ 4 ρ H locs) {x : Int32} (hd : decode cc pc = .ok (.putfield 132, 3)) (kk : ∀ (ρ1 : Gr) (H1 : Heap) (locs1 : List Loc), ρ1 = up ρ 0 8 x → Wh G s σ 4 ρ1 H1 locs1 → W p l e R s m args below meth c H1 locs1 cells slots Q (F0 m (pc + 3) ls rest)) : W p l e R s m args below meth c H locs cells slots Q (F0 m pc ls (.int x :: .ref (aa G 4 0) :: rest)) :=
  r_pi X w m4_0 rfl (k := 8) rfl rfl (by decide) inT7 tyX7 tyX7_ok nmX7 rfl kw709 rfl (ty := .int) (by decide +kernel) rfl rfl hd (fun H1 locs1 w1 => kk _ H1 locs1 rfl w1)
theorem gf7_147 (X : Cx p m c cc nL s args RX7 G) (w : Wh G s σ 4 ρ H locs) (hd : decode cc pc = .ok (.getfield 147, 3)) (kk : W p l e R s m args below meth c H locs cells slots Q (F0 m (pc + 3) ls (.int (ρ 0 15) :: rest))) : W p l e R s m args below meth c H locs cells slots Q (F0 m pc ls (.ref (aa G 4 0) :: rest)) :=
  r_gv X w m4_0 rfl (k := 15) rfl rfl (by decide) inT7 rfl kw716 hd kk
theorem pf7_147 (X : Cx p m c cc nL s args RX7 G) (w : Wh G s σ 4 ρ H locs) {x : Int32} (hd : decode cc pc = .ok (.putfield 147, 3)) (kk : ∀ (ρ1 : Gr) (H1 : Heap) (locs1 : List Loc), ρ1 = up ρ 0 15 x → Wh G s σ 4 ρ1 H1 locs1 → W p l e R s m args below meth c H1 locs1 cells slots Q (F0 m (pc + 3) ls rest)) : W p l e R s m args below meth c H locs cells slots Q (F0 m pc ls (.int x :: .ref (aa G 4 0) :: rest)) :=
  r_pi X w m4_0 rfl (k := 15) rfl rfl (by decide) inT7 tyX7 tyX7_ok nmX7 rfl kw716 rfl (ty := .int) (by decide +kernel) rfl rfl hd (fun H1 locs1 w1 => kk _ H1 locs1 rfl w1)
theorem gf7_170 (X : Cx p m c cc nL s args RX7 G) (w : Wh G s σ 4 ρ H locs) (hd : decode cc pc = .ok (.getfield 170, 3)) (kk : W p l e R s m args below meth c H locs cells slots Q (F0 m (pc + 3) ls (.int (ρ 0 24) :: rest))) : W p l e R s m args below meth c H locs cells slots Q (F0 m pc ls (.ref (aa G 4 0) :: rest)) :=
  r_gv X w m4_0 rfl (k := 24) rfl rfl (by decide) inT7 rfl kw725 hd kk
theorem pf7_170 (X : Cx p m c cc nL s args RX7 G) (w : Wh G s σ 4 ρ H locs) {x : Int32} (hd : decode cc pc = .ok (.putfield 170, 3)) (kk : ∀ (ρ1 : Gr) (H1 : Heap) (locs1 : List Loc), ρ1 = up ρ 0 24 x → Wh G s σ 4 ρ1 H1 locs1 → W p l e R s m args below meth c H1 locs1 cells slots Q (F0 m (pc + 3) ls rest)) : W p l e R s m args below meth c H locs cells slots Q (F0 m pc ls (.int x :: .ref (aa G 4 0) :: rest)) :=
  r_pi X w m4_0 rfl (k := 24) rfl rfl (by decide) inT7 tyX7 tyX7_ok nmX7 rfl kw725 rfl (ty := .int) (by decide +kernel) rfl rfl hd (fun H1 locs1 w1 => kk _ H1 locs1 rfl w1)
theorem gf7_173 (X : Cx p m c cc nL s args RX7 G) (w : Wh G s σ 4 ρ H locs) (hd : decode cc pc = .ok (.getfield 173, 3)) (kk : W p l e R s m args below meth c H locs cells slots Q (F0 m (pc + 3) ls (.int (ρ 0 26) :: rest))) : W p l e R s m args below meth c H locs cells slots Q (F0 m pc ls (.ref (aa G 4 0) :: rest)) :=
  r_gv X w m4_0 rfl (k := 26) rfl rfl (by decide) inT7 rfl kw727 hd kk
theorem pf7_173 (X : Cx p m c cc nL s args RX7 G) (w : Wh G s σ 4 ρ H locs) {x : Int32} (hd : decode cc pc = .ok (.putfield 173, 3)) (kk : ∀ (ρ1 : Gr) (H1 : Heap) (locs1 : List Loc), ρ1 = up ρ 0 26 x → Wh G s σ 4 ρ1 H1 locs1 → W p l e R s m args below meth c H1 locs1 cells slots Q (F0 m (pc + 3) ls rest)) : W p l e R s m args below meth c H locs cells slots Q (F0 m pc ls (.int x :: .ref (aa G 4 0) :: rest)) :=
  r_pi X w m4_0 rfl (k := 26) rfl rfl (by decide) inT7 tyX7 tyX7_ok nmX7 rfl kw727 rfl (ty := .int) (by decide +kernel) rfl rfl hd (fun H1 locs1 w1 => kk _ H1 locs1 rfl w1)
theorem gf7_176 (X : Cx p m c cc nL s args RX7 G) (w : Wh G s σ 4 ρ H locs) (hd : decode cc pc = .ok (.getfield 176, 3)) (kk : W p l e R s m args below meth c H locs cells slots Q (F0 m (pc + 3) ls (.int (ρ 0 27) :: rest))) : W p l e R s m args below meth c H locs cells slots Q (F0 m pc ls (.ref (aa G 4 0) :: rest)) :=
  r_gv X w m4_0 rfl (k := 27) rfl rfl (by decide) inT7 rfl kw728 hd kk
theorem pf7_176 (X : Cx p m c cc nL s args RX7 G) (w : Wh G s σ 4 ρ H locs) {x : Int32} (hd : decode cc pc = .ok (.putfield 176, 3)) (kk : ∀ (ρ1 : Gr) (H1 : Heap) (locs1 : List Loc), ρ1 = up ρ 0 27 x → Wh G s σ 4 ρ1 H1 locs1 → W p l e R s m args below meth c H1 locs1 cells slots Q (F0 m (pc + 3) ls rest)) : W p l e R s m args below meth c H locs cells slots Q (F0 m pc ls (.int x :: .ref (aa G 4 0) :: rest)) :=
  r_pi X w m4_0 rfl (k := 27) rfl rfl (by decide) inT7 tyX7 tyX7_ok nmX7 rfl kw728 rfl (ty := .int) (by decide +kernel) rfl rfl hd (fun H1 locs1 w1 => kk _ H1 locs1 rfl w1)
theorem gf7_186 (X : Cx p m c cc nL s args RX7 G) (w : Wh G s σ 4 ρ H locs) (hd : decode cc pc = .ok (.getfield 186, 3)) (kk : W p l e R s m args below meth c H locs cells slots Q (F0 m (pc + 3) ls (.int (ρ 0 21) :: rest))) : W p l e R s m args below meth c H locs cells slots Q (F0 m pc ls (.ref (aa G 4 0) :: rest)) :=
  r_gv X w m4_0 rfl (k := 21) rfl rfl (by decide) inT7 rfl kw722 hd kk
theorem pf7_186 (X : Cx p m c cc nL s args RX7 G) (w : Wh G s σ 4 ρ H locs) {x : Int32} (hd : decode cc pc = .ok (.putfield 186, 3)) (kk : ∀ (ρ1 : Gr) (H1 : Heap) (locs1 : List Loc), ρ1 = up ρ 0 21 x → Wh G s σ 4 ρ1 H1 locs1 → W p l e R s m args below meth c H1 locs1 cells slots Q (F0 m (pc + 3) ls rest)) : W p l e R s m args below meth c H locs cells slots Q (F0 m pc ls (.int x :: .ref (aa G 4 0) :: rest)) :=
  r_pi X w m4_0 rfl (k := 21) rfl rfl (by decide) inT7 tyX7 tyX7_ok nmX7 rfl kw722 rfl (ty := .int) (by decide +kernel) rfl rfl hd (fun H1 locs1 w1 => kk _ H1 locs1 rfl w1)
theorem gf7_194 (X : Cx p m c cc nL s args RX7 G) (w : Wh G s σ 4 ρ H locs) (hd : decode cc pc = .ok (.getfield 194, 3)) (kk : W p l e R s m args below meth c H locs cells slots Q (F0 m (pc + 3) ls (.int (ρ 0 22) :: rest))) : W p l e R s m args below meth c H locs cells slots Q (F0 m pc ls (.ref (aa G 4 0) :: rest)) :=
  r_gv X w m4_0 rfl (k := 22) rfl rfl (by decide) inT7 rfl kw723 hd kk
theorem pf7_194 (X : Cx p m c cc nL s args RX7 G) (w : Wh G s σ 4 ρ H locs) {x : Int32} (hd : decode cc pc = .ok (.putfield 194, 3)) (kk : ∀ (ρ1 : Gr) (H1 : Heap) (locs1 : List Loc), ρ1 = up ρ 0 22 x → Wh G s σ 4 ρ1 H1 locs1 → W p l e R s m args below meth c H1 locs1 cells slots Q (F0 m (pc + 3) ls rest)) : W p l e R s m args below meth c H locs cells slots Q (F0 m pc ls (.int x :: .ref (aa G 4 0) :: rest)) :=
  r_pi X w m4_0 rfl (k := 22) rfl rfl (by decide) inT7 tyX7 tyX7_ok nmX7 rfl kw723 rfl (ty := .int) (by decide +kernel) rfl rfl hd (fun H1 locs1 w1 => kk _ H1 locs1 rfl w1)
theorem gf7_197 (X : Cx p m c cc nL s args RX7 G) (w : Wh G s σ 4 ρ H locs) (hd : decode cc pc = .ok (.getfield 197, 3)) (kk : W p l e R s m args below meth c H locs cells slots Q (F0 m (pc + 3) ls (.int (ρ 0 36) :: rest))) : W p l e R s m args below meth c H locs cells slots Q (F0 m pc ls (.ref (aa G 4 0) :: rest)) :=
  r_gv X w m4_0 rfl (k := 36) rfl rfl (by decide) inT7 rfl kw737 hd kk
theorem pf7_197 (X : Cx p m c cc nL s args RX7 G) (w : Wh G s σ 4 ρ H locs) {x : Int32} (hd : decode cc pc = .ok (.putfield 197, 3)) (kk : ∀ (ρ1 : Gr) (H1 : Heap) (locs1 : List Loc), ρ1 = up ρ 0 36 x → Wh G s σ 4 ρ1 H1 locs1 → W p l e R s m args below meth c H1 locs1 cells slots Q (F0 m (pc + 3) ls rest)) : W p l e R s m args below meth c H locs cells slots Q (F0 m pc ls (.int x :: .ref (aa G 4 0) :: rest)) :=
  r_pi X w m4_0 rfl (k := 36) rfl rfl (by decide) inT7 tyX7 tyX7_ok nmX7 rfl kw737 rfl (ty := .int) (by decide +kernel) rfl rfl hd (fun H1 locs1 w1 => kk _ H1 locs1 rfl w1)
theorem gf7_200 (X : Cx p m c cc nL s args RX7 G) (w : Wh G s σ 4 ρ H locs) (hd : decode cc pc = .ok (.getfield 200, 3)) (kk : W p l e R s m args below meth c H locs cells slots Q (F0 m (pc + 3) ls (.int (ρ 0 37) :: rest))) : W p l e R s m args below meth c H locs cells slots Q (F0 m pc ls (.ref (aa G 4 0) :: rest)) :=
  r_gv X w m4_0 rfl (k := 37) rfl rfl (by decide) inT7 rfl kw738 hd kk
theorem pf7_200 (X : Cx p m c cc nL s args RX7 G) (w : Wh G s σ 4 ρ H locs) {x : Int32} (hd : decode cc pc = .ok (.putfield 200, 3)) (kk : ∀ (ρ1 : Gr) (H1 : Heap) (locs1 : List Loc), ρ1 = up ρ 0 37 x → Wh G s σ 4 ρ1 H1 locs1 → W p l e R s m args below meth c H1 locs1 cells slots Q (F0 m (pc + 3) ls rest)) : W p l e R s m args below meth c H locs cells slots Q (F0 m pc ls (.int x :: .ref (aa G 4 0) :: rest)) :=
  r_pi X w m4_0 rfl (k := 37) rfl rfl (by decide) inT7 tyX7 tyX7_ok nmX7 rfl kw738 rfl (ty := .int) (by decide +kernel) rfl rfl hd (fun H1 locs1 w1 => kk _ H1 locs1 rfl w1)
theorem gf7_203 (X : Cx p m c cc nL s args RX7 G) (w : Wh G s σ 4 ρ H locs) (hd : decode cc pc = .ok (.getfield 203, 3)) (kk : W p l e R s m args below meth c H locs cells slots Q (F0 m (pc + 3) ls (.int (ρ 0 23) :: rest))) : W p l e R s m args below meth c H locs cells slots Q (F0 m pc ls (.ref (aa G 4 0) :: rest)) :=
  r_gv X w m4_0 rfl (k := 23) rfl rfl (by decide) inT7 rfl kw724 hd kk
theorem pf7_203 (X : Cx p m c cc nL s args RX7 G) (w : Wh G s σ 4 ρ H locs) {x : Int32} (hd : decode cc pc = .ok (.putfield 203, 3)) (kk : ∀ (ρ1 : Gr) (H1 : Heap) (locs1 : List Loc), ρ1 = up ρ 0 23 x → Wh G s σ 4 ρ1 H1 locs1 → W p l e R s m args below meth c H1 locs1 cells slots Q (F0 m (pc + 3) ls rest)) : W p l e R s m args below meth c H locs cells slots Q (F0 m pc ls (.int x :: .ref (aa G 4 0) :: rest)) :=
  r_pi X w m4_0 rfl (k := 23) rfl rfl (by decide) inT7 tyX7 tyX7_ok nmX7 rfl kw724 rfl (ty := .int) (by decide +kernel) rfl rfl hd (fun H1 locs1 w1 => kk _ H1 locs1 rfl w1)
theorem gf7_226 (X : Cx p m c cc nL s args RX7 G) (w : Wh G s σ 4 ρ H locs) (hd : decode cc pc = .ok (.getfield 226, 3)) (kk : W p l e R s m args below meth c H locs cells slots Q (F0 m (pc + 3) ls (.int (ρ 0 40) :: rest))) : W p l e R s m args below meth c H locs cells slots Q (F0 m pc ls (.ref (aa G 4 0) :: rest)) :=
  r_gv X w m4_0 rfl (k := 40) rfl rfl (by decide) inT7 rfl kw741 hd kk
theorem pf7_226 (X : Cx p m c cc nL s args RX7 G) (w : Wh G s σ 4 ρ H locs) {x : Int32} (hd : decode cc pc = .ok (.putfield 226, 3)) (kk : ∀ (ρ1 : Gr) (H1 : Heap) (locs1 : List Loc), ρ1 = up ρ 0 40 x → Wh G s σ 4 ρ1 H1 locs1 → W p l e R s m args below meth c H1 locs1 cells slots Q (F0 m (pc + 3) ls rest)) : W p l e R s m args below meth c H locs cells slots Q (F0 m pc ls (.int x :: .ref (aa G 4 0) :: rest)) :=
  r_pi X w m4_0 rfl (k := 40) rfl rfl (by decide) inT7 tyX7 tyX7_ok nmX7 rfl kw741 rfl (ty := .int) (by decide +kernel) rfl rfl hd (fun H1 locs1 w1 => kk _ H1 locs1 rfl w1)
theorem gf7_229 (X : Cx p m c cc nL s args RX7 G) (w : Wh G s σ 4 ρ H locs) (hd : decode cc pc = .ok (.getfield 229, 3)) (kk : W p l e R s m args below meth c H locs cells slots Q (F0 m (pc + 3) ls (.int (ρ 0 41) :: rest))) : W p l e R s m args below meth c H locs cells slots Q (F0 m pc ls (.ref (aa G 4 0) :: rest)) :=
  r_gv X w m4_0 rfl (k := 41) rfl rfl (by decide) inT7 rfl kw742 hd kk
theorem pf7_229 (X : Cx p m c cc nL s args RX7 G) (w : Wh G s σ 4 ρ H locs) {x : Int32} (hd : decode cc pc = .ok (.putfield 229, 3)) (kk : ∀ (ρ1 : Gr) (H1 : Heap) (locs1 : List Loc), ρ1 = up ρ 0 41 x → Wh G s σ 4 ρ1 H1 locs1 → W p l e R s m args below meth c H1 locs1 cells slots Q (F0 m (pc + 3) ls rest)) : W p l e R s m args below meth c H locs cells slots Q (F0 m pc ls (.int x :: .ref (aa G 4 0) :: rest)) :=
  r_pi X w m4_0 rfl (k := 41) rfl rfl (by decide) inT7 tyX7 tyX7_ok nmX7 rfl kw742 rfl (ty := .int) (by decide +kernel) rfl rfl hd (fun H1 locs1 w1 => kk _ H1 locs1 rfl w1)
theorem gf7_232 (X : Cx p m c cc nL s args RX7 G) (w : Wh G s σ 4 ρ H locs) (hd : decode cc pc = .ok (.getfield 232, 3)) (kk : W p l e R s m args below meth c H locs cells slots Q (F0 m (pc + 3) ls (.int (ρ 0 42) :: rest))) : W p l e R s m args below meth c H locs cells slots Q (F0 m pc ls (.ref (aa G 4 0) :: rest)) :=
  r_gv X w m4_0 rfl (k := 42) rfl rfl (by decide) inT7 rfl kw743 hd kk
theorem pf7_232 (X : Cx p m c cc nL s args RX7 G) (w : Wh G s σ 4 ρ H locs) {x : Int32} (hd : decode cc pc = .ok (.putfield 232, 3)) (kk : ∀ (ρ1 : Gr) (H1 : Heap) (locs1 : List Loc), ρ1 = up ρ 0 42 x → Wh G s σ 4 ρ1 H1 locs1 → W p l e R s m args below meth c H1 locs1 cells slots Q (F0 m (pc + 3) ls rest)) : W p l e R s m args below meth c H locs cells slots Q (F0 m pc ls (.int x :: .ref (aa G 4 0) :: rest)) :=
  r_pi X w m4_0 rfl (k := 42) rfl rfl (by decide) inT7 tyX7 tyX7_ok nmX7 rfl kw743 rfl (ty := .int) (by decide +kernel) rfl rfl hd (fun H1 locs1 w1 => kk _ H1 locs1 rfl w1)
theorem gf7_261 (X : Cx p m c cc nL s args RX7 G) (w : Wh G s σ 4 ρ H locs) (hd : decode cc pc = .ok (.getfield 261, 3)) (kk : W p l e R s m args below meth c H locs cells slots Q (F0 m (pc + 3) ls (.int (ρ 0 32) :: rest))) : W p l e R s m args below meth c H locs cells slots Q (F0 m pc ls (.ref (aa G 4 0) :: rest)) :=
  r_gv X w m4_0 rfl (k := 32) rfl rfl (by decide) inT7 rfl kw733 hd kk
theorem pf7_261 (X : Cx p m c cc nL s args RX7 G) (w : Wh G s σ 4 ρ H locs) {x : Int32} (hd : decode cc pc = .ok (.putfield 261, 3)) (kk : ∀ (ρ1 : Gr) (H1 : Heap) (locs1 : List Loc), ρ1 = up ρ 0 32 x → Wh G s σ 4 ρ1 H1 locs1 → W p l e R s m args below meth c H1 locs1 cells slots Q (F0 m (pc + 3) ls rest)) : W p l e R s m args below meth c H locs cells slots Q (F0 m pc ls (.int x :: .ref (aa G 4 0) :: rest)) :=
  r_pi X w m4_0 rfl (k := 32) rfl rfl (by decide) inT7 tyX7 tyX7_ok nmX7 rfl kw733 rfl (ty := .int) (by decide +kernel) rfl rfl hd (fun H1 locs1 w1 => kk _ H1 locs1 rfl w1)
theorem gf7_268 (X : Cx p m c cc nL s args RX7 G) (w : Wh G s σ 4 ρ H locs) (hd : decode cc pc = .ok (.getfield 268, 3)) (kk : W p l e R s m args below meth c H locs cells slots Q (F0 m (pc + 3) ls (.int (ρ 0 43) :: rest))) : W p l e R s m args below meth c H locs cells slots Q (F0 m pc ls (.ref (aa G 4 0) :: rest)) :=
  r_gv X w m4_0 rfl (k := 43) rfl rfl (by decide) inT7 rfl kw744 hd kk
theorem pf7_268 (X : Cx p m c cc nL s args RX7 G) (w : Wh G s σ 4 ρ H locs) {x : Int32} (hd : decode cc pc = .ok (.putfield 268, 3)) (kk : ∀ (ρ1 : Gr) (H1 : Heap) (locs1 : List Loc), ρ1 = up ρ 0 43 x → Wh G s σ 4 ρ1 H1 locs1 → W p l e R s m args below meth c H1 locs1 cells slots Q (F0 m (pc + 3) ls rest)) : W p l e R s m args below meth c H locs cells slots Q (F0 m pc ls (.int x :: .ref (aa G 4 0) :: rest)) :=
  r_pi X w m4_0 rfl (k := 43) rfl rfl (by decide) inT7 tyX7 tyX7_ok nmX7 rfl kw744 rfl (ty := .int) (by decide +kernel) rfl rfl hd (fun H1 locs1 w1 => kk _ H1 locs1 rfl w1)
theorem gf7_271 (X : Cx p m c cc nL s args RX7 G) (w : Wh G s σ 4 ρ H locs) (hd : decode cc pc = .ok (.getfield 271, 3)) (kk : W p l e R s m args below meth c H locs cells slots Q (F0 m (pc + 3) ls (.int (ρ 0 44) :: rest))) : W p l e R s m args below meth c H locs cells slots Q (F0 m pc ls (.ref (aa G 4 0) :: rest)) :=
  r_gv X w m4_0 rfl (k := 44) rfl rfl (by decide) inT7 rfl kw745 hd kk
theorem pf7_271 (X : Cx p m c cc nL s args RX7 G) (w : Wh G s σ 4 ρ H locs) {x : Int32} (hd : decode cc pc = .ok (.putfield 271, 3)) (kk : ∀ (ρ1 : Gr) (H1 : Heap) (locs1 : List Loc), ρ1 = up ρ 0 44 x → Wh G s σ 4 ρ1 H1 locs1 → W p l e R s m args below meth c H1 locs1 cells slots Q (F0 m (pc + 3) ls rest)) : W p l e R s m args below meth c H locs cells slots Q (F0 m pc ls (.int x :: .ref (aa G 4 0) :: rest)) :=
  r_pi X w m4_0 rfl (k := 44) rfl rfl (by decide) inT7 tyX7 tyX7_ok nmX7 rfl kw745 rfl (ty := .int) (by decide +kernel) rfl rfl hd (fun H1 locs1 w1 => kk _ H1 locs1 rfl w1)
theorem gf7_274 (X : Cx p m c cc nL s args RX7 G) (w : Wh G s σ 4 ρ H locs) (hd : decode cc pc = .ok (.getfield 274, 3)) (kk : W p l e R s m args below meth c H locs cells slots Q (F0 m (pc + 3) ls (.int (ρ 0 45) :: rest))) : W p l e R s m args below meth c H locs cells slots Q (F0 m pc ls (.ref (aa G 4 0) :: rest)) :=
  r_gv X w m4_0 rfl (k := 45) rfl rfl (by decide) inT7 rfl kw746 hd kk
theorem pf7_274 (X : Cx p m c cc nL s args RX7 G) (w : Wh G s σ 4 ρ H locs) {x : Int32} (hz : isB x) (hd : decode cc pc = .ok (.putfield 274, 3)) (kk : ∀ (ρ1 : Gr) (H1 : Heap) (locs1 : List Loc), ρ1 = up ρ 0 45 x → Wh G s σ 4 ρ1 H1 locs1 → W p l e R s m args below meth c H1 locs1 cells slots Q (F0 m (pc + 3) ls rest)) : W p l e R s m args below meth c H locs cells slots Q (F0 m pc ls (.int x :: .ref (aa G 4 0) :: rest)) :=
  r_pi X w m4_0 rfl (k := 45) rfl rfl (by decide) inT7 tyX7 tyX7_ok nmX7 rfl kw746 rfl (ty := .boolean) (by decide +kernel) hz.n hz.f hd (fun H1 locs1 w1 => kk _ H1 locs1 rfl w1)
theorem gf7_292 (X : Cx p m c cc nL s args RX7 G) (w : Wh G s σ 4 ρ H locs) (hd : decode cc pc = .ok (.getfield 292, 3)) (kk : W p l e R s m args below meth c H locs cells slots Q (F0 m (pc + 3) ls (.int (ρ 0 46) :: rest))) : W p l e R s m args below meth c H locs cells slots Q (F0 m pc ls (.ref (aa G 4 0) :: rest)) :=
  r_gv X w m4_0 rfl (k := 46) rfl rfl (by decide) inT7 rfl kw747 hd kk
theorem pf7_292 (X : Cx p m c cc nL s args RX7 G) (w : Wh G s σ 4 ρ H locs) {x : Int32} (hd : decode cc pc = .ok (.putfield 292, 3)) (kk : ∀ (ρ1 : Gr) (H1 : Heap) (locs1 : List Loc), ρ1 = up ρ 0 46 x → Wh G s σ 4 ρ1 H1 locs1 → W p l e R s m args below meth c H1 locs1 cells slots Q (F0 m (pc + 3) ls rest)) : W p l e R s m args below meth c H locs cells slots Q (F0 m pc ls (.int x :: .ref (aa G 4 0) :: rest)) :=
  r_pi X w m4_0 rfl (k := 46) rfl rfl (by decide) inT7 tyX7 tyX7_ok nmX7 rfl kw747 rfl (ty := .int) (by decide +kernel) rfl rfl hd (fun H1 locs1 w1 => kk _ H1 locs1 rfl w1)
theorem gf7_311 (X : Cx p m c cc nL s args RX7 G) (w : Wh G s σ 4 ρ H locs) (hd : decode cc pc = .ok (.getfield 311, 3)) (kk : W p l e R s m args below meth c H locs cells slots Q (F0 m (pc + 3) ls (.int (ρ 0 54) :: rest))) : W p l e R s m args below meth c H locs cells slots Q (F0 m pc ls (.ref (aa G 4 0) :: rest)) :=
  r_gv X w m4_0 rfl (k := 54) rfl rfl (by decide) inT7 rfl kw755 hd kk
theorem pf7_311 (X : Cx p m c cc nL s args RX7 G) (w : Wh G s σ 4 ρ H locs) {x : Int32} (hz : isB x) (hd : decode cc pc = .ok (.putfield 311, 3)) (kk : ∀ (ρ1 : Gr) (H1 : Heap) (locs1 : List Loc), ρ1 = up ρ 0 54 x → Wh G s σ 4 ρ1 H1 locs1 → W p l e R s m args below meth c H1 locs1 cells slots Q (F0 m (pc + 3) ls rest)) : W p l e R s m args below meth c H locs cells slots Q (F0 m pc ls (.int x :: .ref (aa G 4 0) :: rest)) :=
  r_pi X w m4_0 rfl (k := 54) rfl rfl (by decide) inT7 tyX7 tyX7_ok nmX7 rfl kw755 rfl (ty := .boolean) (by decide +kernel) hz.n hz.f hd (fun H1 locs1 w1 => kk _ H1 locs1 rfl w1)
theorem gf7_314 (X : Cx p m c cc nL s args RX7 G) (w : Wh G s σ 4 ρ H locs) (hd : decode cc pc = .ok (.getfield 314, 3)) (kk : W p l e R s m args below meth c H locs cells slots Q (F0 m (pc + 3) ls (.int (ρ 0 53) :: rest))) : W p l e R s m args below meth c H locs cells slots Q (F0 m pc ls (.ref (aa G 4 0) :: rest)) :=
  r_gv X w m4_0 rfl (k := 53) rfl rfl (by decide) inT7 rfl kw754 hd kk
theorem pf7_314 (X : Cx p m c cc nL s args RX7 G) (w : Wh G s σ 4 ρ H locs) {x : Int32} (hd : decode cc pc = .ok (.putfield 314, 3)) (kk : ∀ (ρ1 : Gr) (H1 : Heap) (locs1 : List Loc), ρ1 = up ρ 0 53 x → Wh G s σ 4 ρ1 H1 locs1 → W p l e R s m args below meth c H1 locs1 cells slots Q (F0 m (pc + 3) ls rest)) : W p l e R s m args below meth c H locs cells slots Q (F0 m pc ls (.int x :: .ref (aa G 4 0) :: rest)) :=
  r_pi X w m4_0 rfl (k := 53) rfl rfl (by decide) inT7 tyX7 tyX7_ok nmX7 rfl kw754 rfl (ty := .int) (by decide +kernel) rfl rfl hd (fun H1 locs1 w1 => kk _ H1 locs1 rfl w1)
theorem gf7_320 (X : Cx p m c cc nL s args RX7 G) (w : Wh G s σ 4 ρ H locs) (hd : decode cc pc = .ok (.getfield 320, 3)) (kk : W p l e R s m args below meth c H locs cells slots Q (F0 m (pc + 3) ls (.int (ρ 0 51) :: rest))) : W p l e R s m args below meth c H locs cells slots Q (F0 m pc ls (.ref (aa G 4 0) :: rest)) :=
  r_gv X w m4_0 rfl (k := 51) rfl rfl (by decide) inT7 rfl kw752 hd kk
theorem pf7_320 (X : Cx p m c cc nL s args RX7 G) (w : Wh G s σ 4 ρ H locs) {x : Int32} (hz : isB x) (hd : decode cc pc = .ok (.putfield 320, 3)) (kk : ∀ (ρ1 : Gr) (H1 : Heap) (locs1 : List Loc), ρ1 = up ρ 0 51 x → Wh G s σ 4 ρ1 H1 locs1 → W p l e R s m args below meth c H1 locs1 cells slots Q (F0 m (pc + 3) ls rest)) : W p l e R s m args below meth c H locs cells slots Q (F0 m pc ls (.int x :: .ref (aa G 4 0) :: rest)) :=
  r_pi X w m4_0 rfl (k := 51) rfl rfl (by decide) inT7 tyX7 tyX7_ok nmX7 rfl kw752 rfl (ty := .boolean) (by decide +kernel) hz.n hz.f hd (fun H1 locs1 w1 => kk _ H1 locs1 rfl w1)
theorem ia {own : String} (X : Cx p m c cc nL s args own G) (w : Wh G s σ g ρ H locs) {f n : Nat} (hq : (g, f) ∈ cellsL) (hsh : sh g f = .inr (n, false)) {i : Int32} (hi : vp_in i n) (hd : decode cc pc = .ok (.iaload, 1))
    (kk : W p l e R s m args below meth c H locs cells slots Q (F0 m (pc + 1) ls (.int (ρ f i.toNatClampNeg) :: rest))) : W p l e R s m args below meth c H locs cells slots Q (F0 m pc ls (.int i :: .ref (aa G g f) :: rest)) := r_ia X w hq hsh hi hd kk
theorem iS {own : String} (X : Cx p m c cc nL s args own G) (w : Wh G s σ g ρ H locs) {f n : Nat} (hq : (g, f) ∈ cellsL) (hsh : sh g f = .inr (n, false)) {i x : Int32} (hi : vp_in i n) (hd : decode cc pc = .ok (.iastore, 1))
    (kk : ∀ (ρ1 : Gr) (H1 : Heap) (locs1 : List Loc), ρ1 = up ρ f i.toNatClampNeg x → Wh G s σ g ρ1 H1 locs1 → W p l e R s m args below meth c H1 locs1 cells slots Q (F0 m (pc + 1) ls rest)) : W p l e R s m args below meth c H locs cells slots Q (F0 m pc ls (.int x :: .int i :: .ref (aa G g f) :: rest)) := r_is X w hq hsh hi hd (fun H1 locs1 w1 => kk _ H1 locs1 rfl w1)
theorem zS {own : String} (X : Cx p m c cc nL s args own G) (w : Wh G s σ g ρ H locs) {f n : Nat} (hq : (g, f) ∈ cellsL) (hsh : sh g f = .inr (n, true)) {i x : Int32} (hi : vp_in i n) (hx : isB x) (hd : decode cc pc = .ok (.bastore, 1))
    (kk : ∀ (ρ1 : Gr) (H1 : Heap) (locs1 : List Loc), ρ1 = up ρ f i.toNatClampNeg x → Wh G s σ g ρ1 H1 locs1 → W p l e R s m args below meth c H1 locs1 cells slots Q (F0 m (pc + 1) ls rest)) : W p l e R s m args below meth c H locs cells slots Q (F0 m pc ls (.int x :: .int i :: .ref (aa G g f) :: rest)) := r_zs X w hq hsh hi hx.v hd (fun H1 locs1 w1 => kk _ H1 locs1 rfl w1)
theorem mmax {own : String} (X : Cx p m c cc nL s args own G) (hls : ls.size = nL) {idx : Nat} (hlk : Cond.methodLink own idx Lib.Math.max.name ∈ tbl) (hfr : 1 ≤ R.frames) (hlo : (rest.map fun v => v.category).sum + 13 ≤ R.locals) (hc : cells ≤ R.cells) (hs : slots ≤ R.slots) {x y : Int32} (hd : decode cc pc = .ok (.invokestatic idx, 3))
    (kk : W p l e R s m args below meth c H locs cells slots Q (F0 m (pc + 3) ls (.int (if x < y then y else x) :: rest))) : W p l e R s m args below meth c H locs cells slots Q (F0 m pc ls (.int y :: .int x :: rest)) :=
  va_mmax X.1.1 X.1.2.1 (X.1.2.2.1.trans hls.symm) X.1.2.2.2.1 (X.1.2.2.2.2 _ hlk) (X.1.2.2.2.2 _ kw461) (X.1.2.2.2.2 _ kw10) (X.1.2.2.2.2 _ kw462) hfr hlo hc hs hd kk
theorem mmin {own : String} (X : Cx p m c cc nL s args own G) (hls : ls.size = nL) {idx : Nat} (hlk : Cond.methodLink own idx Lib.Math.min.name ∈ tbl) (hfr : 1 ≤ R.frames) (hlo : (rest.map fun v => v.category).sum + 13 ≤ R.locals) (hc : cells ≤ R.cells) (hs : slots ≤ R.slots) {x y : Int32} (hd : decode cc pc = .ok (.invokestatic idx, 3))
    (kk : W p l e R s m args below meth c H locs cells slots Q (F0 m (pc + 3) ls (.int (if y < x then y else x) :: rest))) : W p l e R s m args below meth c H locs cells slots Q (F0 m pc ls (.int y :: .int x :: rest)) :=
  va_mmin X.1.1 X.1.2.1 (X.1.2.2.1.trans hls.symm) X.1.2.2.2.1 (X.1.2.2.2.2 _ hlk) (X.1.2.2.2.2 _ kw580) (X.1.2.2.2.2 _ kw10) (X.1.2.2.2.2 _ kw581) hfr hlo hc hs hd kk
end Links
theorem mX0_add : CM yX0_add RX0 cX0_add 4 2 (some .int) := ⟨kw352, kw353, kw3, kw354, by decide +kernel⟩
theorem mX0_become : CM yX0_become RX0 cX0_become 2 1 none := ⟨kw287, kw288, kw3, kw289, by decide +kernel⟩
theorem mX0_depthOf : CM yX0_depthOf RX0 cX0_depthOf 2 1 (some .int) := ⟨kw473, kw474, kw3, kw475, by decide +kernel⟩
theorem mX0_feetLacked : CM yX0_feetLacked RX0 cX0_feetLacked 3 0 (some .int) := ⟨kw675, kw676, kw3, kw677, by decide +kernel⟩
theorem mX0_fullest : CM yX0_fullest RX0 cX0_fullest 5 1 (some .int) := ⟨kw521, kw522, kw3, kw523, by decide +kernel⟩
theorem mX0_has : CM yX0_has RX0 cX0_has 2 1 (some .boolean) := ⟨kw360, kw361, kw3, kw362, by decide +kernel⟩
theorem mX0_hasAll : CM yX0_hasAll RX0 cX0_hasAll 2 1 (some .boolean) := ⟨kw623, kw624, kw3, kw625, by decide +kernel⟩
theorem mX0_heapsOf : CM yX0_heapsOf RX0 cX0_heapsOf 2 1 (some (.array .int)) := ⟨kw454, kw455, kw3, kw456, by decide +kernel⟩
theorem mX0_lackOf : CM yX0_lackOf RX0 cX0_lackOf 2 1 (some .int) := ⟨kw489, kw490, kw3, kw491, by decide +kernel⟩
theorem mX0_nearest : CM yX0_nearest RX0 cX0_nearest 5 1 (some .int) := ⟨kw516, kw517, kw3, kw518, by decide +kernel⟩
theorem mX0_priceOfLacks : CM yX0_priceOfLacks RX0 cX0_priceOfLacks 4 0 (some .long) := ⟨kw597, kw598, kw3, kw599, by decide +kernel⟩
theorem mX0_settle : CM yX0_settle RX0 cX0_settle 5 0 none := ⟨kw567, kw568, kw3, kw569, by decide +kernel⟩
theorem mX0_settledIn : CM yX0_settledIn RX0 cX0_settledIn 2 1 (some .int) := ⟨kw477, kw478, kw3, kw479, by decide +kernel⟩
theorem mX0_settledInAll : CM yX0_settledInAll RX0 cX0_settledInAll 3 0 (some .int) := ⟨kw657, kw658, kw3, kw659, by decide +kernel⟩
theorem mX0_someLack : CM yX0_someLack RX0 cX0_someLack 2 0 (some .boolean) := ⟨kw611, kw612, kw3, kw613, by decide +kernel⟩
theorem mX0_stir : CM yX0_stir RX0 cX0_stir 5 0 none := ⟨kw542, kw543, kw3, kw544, by decide +kernel⟩
theorem mX0_tonsInAll : CM yX0_tonsInAll RX0 cX0_tonsInAll 2 0 (some .int) := ⟨kw691, kw692, kw3, kw693, by decide +kernel⟩
theorem mX0_tonsInSet : CM yX0_tonsInSet RX0 cX0_tonsInSet 6 2 (some .int) := ⟨kw627, kw628, kw3, kw629, by decide +kernel⟩
theorem mX0_valuesOf : CM yX0_valuesOf RX0 cX0_valuesOf 2 1 (some (.array .int)) := ⟨kw414, kw415, kw3, kw416, by decide +kernel⟩
theorem mX1_append : CM yX1_append RX1 cX1_append 2 1 none := ⟨kw275, kw276, kw7, kw277, by decide +kernel⟩
theorem mX1_byteHere : CM yX1_byteHere RX1 cX1_byteHere 1 0 (some .int) := ⟨kw317, ks2, kw7, kw318, by decide +kernel⟩
theorem mX1_digitIsHere : CM yX1_digitIsHere RX1 cX1_digitIsHere 1 0 (some .boolean) := ⟨kw325, ks4, kw7, kw326, by decide +kernel⟩
theorem mX1_giveTo : CM yX1_giveTo RX1 cX1_giveTo 2 1 (some .boolean) := ⟨kw349, ks10, kw7, kw350, by decide +kernel⟩
theorem mX1_readDigit : CM yX1_readDigit RX1 cX1_readDigit 1 0 (some .boolean) := ⟨kw333, ks6, kw7, kw334, by decide +kernel⟩
theorem mX1_readInto : CM yX1_readInto RX1 cX1_readInto 5 1 (some .int) := ⟨kw308, kw309, kw7, kw310, by decide +kernel⟩
theorem mX1_readKind : CM yX1_readKind RX1 cX1_readKind 1 0 (some .boolean) := ⟨kw337, ks7, kw7, kw338, by decide +kernel⟩
theorem mX1_readMoon : CM yX1_readMoon RX1 cX1_readMoon 2 0 (some .boolean) := ⟨kw345, ks9, kw7, kw346, by decide +kernel⟩
theorem mX1_readNumber : CM yX1_readNumber RX1 cX1_readNumber 4 0 (some .boolean) := ⟨kw321, ks3, kw7, kw322, by decide +kernel⟩
theorem mX1_readSign : CM yX1_readSign RX1 cX1_readSign 2 1 (some .boolean) := ⟨kw329, ks5, kw7, kw330, by decide +kernel⟩
theorem mX1_readStatement : CM yX1_readStatement RX1 cX1_readStatement 1 0 (some .boolean) := ⟨kw313, ks1, kw7, kw314, by decide +kernel⟩
theorem mX1_readStuff : CM yX1_readStuff RX1 cX1_readStuff 1 0 (some .boolean) := ⟨kw341, ks8, kw7, kw342, by decide +kernel⟩
theorem mX2_become : CM yX2_become RX2 cX2_become 2 1 none := ⟨kw304, kw305, kw6, kw306, by decide +kernel⟩
theorem mX2_change : CM yX2_change RX2 cX2_change 4 2 (some .int) := ⟨kw497, kw498, kw6, kw499, by decide +kernel⟩
theorem mX2_greatest : CS yX2_greatest RX2 cX2_greatest 1 1 (some .int) := ⟨kw501, kw6, kw502, by decide +kernel⟩
theorem mX3_addRiver : CM yX3_addRiver RX3 cX3_addRiver 4 3 (some .int) := ⟨kw383, kw384, kw2, kw385, by decide +kernel⟩
theorem mX3_addWay : CM yX3_addWay RX3 cX3_addWay 6 5 (some .int) := ⟨kw356, kw357, kw2, kw358, by decide +kernel⟩
theorem mX3_become : CM yX3_become RX3 cX3_become 2 1 none := ⟨kw283, kw284, kw2, kw285, by decide +kernel⟩
theorem mX3_bring : CM yX3_bring RX3 cX3_bring 2 0 none := ⟨kw564, ks14, kw2, kw565, by decide +kernel⟩
theorem mX3_carry : CM yX3_carry RX3 cX3_carry 6 1 none := ⟨kw552, ks13, kw2, kw553, by decide +kernel⟩
theorem mX3_changeMoon : CM yX3_changeMoon RX3 cX3_changeMoon 3 2 none := ⟨kw396, kw397, kw2, kw398, by decide +kernel⟩
theorem mX3_dredge : CM yX3_dredge RX3 cX3_dredge 2 1 none := ⟨kw573, ks15, kw2, kw574, by decide +kernel⟩
theorem mX3_dredgeStuff : CM yX3_dredgeStuff RX3 cX3_dredgeStuff 5 2 none := ⟨kw577, ks16, kw2, kw578, by decide +kernel⟩
theorem mX3_drop : CM yX3_drop RX3 cX3_drop 4 3 none := ⟨kw559, kw560, kw2, kw561, by decide +kernel⟩
theorem mX3_firstLack : CM yX3_firstLack RX3 cX3_firstLack 4 2 (some .int) := ⟨kw607, kw608, kw2, kw609, by decide +kernel⟩
theorem mX3_goBy : CM yX3_goBy RX3 cX3_goBy 3 1 none := ⟨kw537, kw538, kw2, kw539, by decide +kernel⟩
theorem mX3_goOn : CM yX3_goOn RX3 cX3_goOn 4 2 none := ⟨kw533, kw534, kw2, kw535, by decide +kernel⟩
theorem mX3_kindNow : CM yX3_kindNow RX3 cX3_kindNow 1 0 (some .int) := ⟨kw508, kw509, kw2, kw510, by decide +kernel⟩
theorem mX3_plannedCell : CM yX3_plannedCell RX3 cX3_plannedCell 2 1 (some .int) := ⟨kw512, kw513, kw2, kw514, by decide +kernel⟩
theorem mX3_runCosts : CM yX3_runCosts RX3 cX3_runCosts 7 2 (some .long) := ⟨kw589, kw590, kw2, kw591, by decide +kernel⟩
theorem mX3_tideCosts : CM yX3_tideCosts RX3 cX3_tideCosts 1 0 (some .long) := ⟨kw593, kw594, kw2, kw595, by decide +kernel⟩
theorem mX4_add : CM yX4_add RX4 cX4_add 5 3 (some .int) := ⟨kw391, kw392, kw5, kw393, by decide +kernel⟩
theorem mX4_become : CM yX4_become RX4 cX4_become 2 1 none := ⟨kw299, kw300, kw5, kw301, by decide +kernel⟩
theorem mX4_has : CM yX4_has RX4 cX4_has 2 1 (some .boolean) := ⟨kw653, kw654, kw5, kw655, by decide +kernel⟩
theorem mX4_isFull : CM yX4_isFull RX4 cX4_isFull 1 0 (some .boolean) := ⟨kw387, kw388, kw5, kw389, by decide +kernel⟩
theorem mX5_add : CM yX5_add RX5 cX5_add 7 5 (some .int) := ⟨kw378, kw379, kw4, kw380, by decide +kernel⟩
theorem mX5_become : CM yX5_become RX5 cX5_become 2 1 none := ⟨kw294, kw295, kw4, kw296, by decide +kernel⟩
theorem mX5_has : CM yX5_has RX5 cX5_has 2 1 (some .boolean) := ⟨kw427, kw428, kw4, kw429, by decide +kernel⟩
theorem mX5_isFull : CM yX5_isFull RX5 cX5_isFull 1 0 (some .boolean) := ⟨kw370, kw371, kw4, kw372, by decide +kernel⟩
theorem mX5_isShut : CM yX5_isShut RX5 cX5_isShut 2 1 (some .boolean) := ⟨kw431, kw432, kw4, kw433, by decide +kernel⟩
theorem mX5_together : CM yX5_together RX5 cX5_together 6 3 (some .int) := ⟨kw374, kw375, kw4, kw376, by decide +kernel⟩
theorem mX5_turn : CM yX5_turn RX5 cX5_turn 2 1 none := ⟨kw435, kw436, kw4, kw437, by decide +kernel⟩
theorem mX6_alone : CM yX6_alone RX6 cX6_alone 3 1 (some .int) := ⟨kw615, kw616, kw1, kw617, by decide +kernel⟩
theorem mX6_back : CM yX6_back RX6 cX6_back 7 5 (some .int) := ⟨kw619, kw620, kw1, kw621, by decide +kernel⟩
theorem mX6_bestDrop : CM yX6_bestDrop RX6 cX6_bestDrop 9 1 (some .int) := ⟨kw633, kw634, kw1, kw635, by decide +kernel⟩
theorem mX6_bestPlan : CM yX6_bestPlan RX6 cX6_bestPlan 9 1 (some .int) := ⟨kw637, kw638, kw1, kw639, by decide +kernel⟩
theorem mX6_cell : CM yX6_cell RX6 cX6_cell 3 2 (some .int) := ⟨kw400, kw401, kw1, kw402, by decide +kernel⟩
theorem mX6_coast : CM yX6_coast RX6 cX6_coast 2 0 (some .int) := ⟨kw279, kw280, kw1, kw281, by decide +kernel⟩
theorem mX6_cost : CM yX6_cost RX6 cX6_cost 3 1 (some .long) := ⟨kw583, kw584, kw1, kw585, by decide +kernel⟩
theorem mX6_count : CM yX6_count RX6 cX6_count 2 1 (some .int) := ⟨kw687, kw688, kw1, kw689, by decide +kernel⟩
theorem mX6_depth : CM yX6_depth RX6 cX6_depth 2 1 (some .int) := ⟨kw469, kw470, kw1, kw471, by decide +kernel⟩
theorem mX6_depthAbove : CS yX6_depthAbove RX6 cX6_depthAbove 2 2 (some .int) := ⟨kw481, kw1, kw482, by decide +kernel⟩
theorem mX6_dredger : CM yX6_dredger RX6 cX6_dredger 4 2 (some .int) := ⟨kw493, kw494, kw1, kw495, by decide +kernel⟩
theorem mX6_feed : CM yX6_feed RX6 cX6_feed 5 2 (some .int) := ⟨kw267, kw268, kw1, kw269, by decide +kernel⟩
theorem mX6_go : CM yX6_go RX6 cX6_go 3 1 (some .int) := ⟨kw525, kw526, kw1, kw527, by decide +kernel⟩
theorem mX6_heapOf : CS yX6_heapOf RX6 cX6_heapOf 2 2 (some .int) := ⟨kw458, kw1, kw459, by decide +kernel⟩
theorem mX6_holds : CM yX6_holds RX6 cX6_holds 3 1 (some .int) := ⟨kw603, kw604, kw1, kw605, by decide +kernel⟩
theorem mX6_image : CM yX6_image RX6 cX6_image 1 0 (some .int) := ⟨kw679, kw680, kw1, kw681, by decide +kernel⟩
theorem mX6_isKind : CS yX6_isKind RX6 cX6_isKind 1 1 (some .boolean) := ⟨kw364, kw1, kw365, by decide +kernel⟩
theorem mX6_isStuff : CS yX6_isStuff RX6 cX6_isStuff 1 1 (some .boolean) := ⟨kw367, kw1, kw368, by decide +kernel⟩
theorem mX6_judge : CM yX6_judge RX6 cX6_judge 6 1 (some .int) := ⟨kw665, kw666, kw1, kw667, by decide +kernel⟩
theorem mX6_lacks : CM yX6_lacks RX6 cX6_lacks 2 1 (some .int) := ⟨kw484, kw485, kw1, kw486, by decide +kernel⟩
theorem mX6_leastCap : CM yX6_leastCap RX6 cX6_leastCap 4 1 (some .int) := ⟨kw641, kw642, kw1, kw643, by decide +kernel⟩
theorem mX6_moon : CM yX6_moon RX6 cX6_moon 4 2 (some .int) := ⟨kw444, kw445, kw1, kw446, by decide +kernel⟩
theorem mX6_partOf : CS yX6_partOf RX6 cX6_partOf 2 2 (some .int) := ⟨kw547, kw1, kw548, by decide +kernel⟩
theorem mX6_put : CM yX6_put RX6 cX6_put 8 4 (some .int) := ⟨kw449, kw450, kw1, kw451, by decide +kernel⟩
theorem mX6_refuse : CM yX6_refuse RX6 cX6_refuse 3 1 (some .int) := ⟨kw272, ks0, kw1, kw273, by decide +kernel⟩
theorem mX6_refuseIfBelow0 : CM yX6_refuseIfBelow0 RX6 cX6_refuseIfBelow0 2 1 (some .int) := ⟨kw406, ks11, kw1, kw407, by decide +kernel⟩
theorem mX6_restore : CM yX6_restore RX6 cX6_restore 1 0 (some .int) := ⟨kw683, kw684, kw1, kw685, by decide +kernel⟩
theorem mX6_river : CM yX6_river RX6 cX6_river 4 3 (some .int) := ⟨kw439, kw440, kw1, kw441, by decide +kernel⟩
theorem mX6_row : CM yX6_row RX6 cX6_row 2 1 (some .int) := ⟨kw661, kw662, kw1, kw663, by decide +kernel⟩
theorem mX6_rowIsOfCells : CM yX6_rowIsOfCells RX6 cX6_rowIsOfCells 2 0 (some .boolean) := ⟨kw670, ks17, kw1, kw671, by decide +kernel⟩
theorem mX6_set : CM yX6_set RX6 cX6_set 6 3 (some .int) := ⟨kw409, kw410, kw1, kw411, by decide +kernel⟩
theorem mX6_share : CM yX6_share RX6 cX6_share 4 2 (some .int) := ⟨kw649, kw650, kw1, kw651, by decide +kernel⟩
theorem mX6_shut : CM yX6_shut RX6 cX6_shut 3 2 (some .int) := ⟨kw423, kw424, kw1, kw425, by decide +kernel⟩
theorem mX6_takes : CM yX6_takes RX6 cX6_takes 2 0 (some .int) := ⟨kw504, kw505, kw1, kw506, by decide +kernel⟩
theorem mX6_tons : CM yX6_tons RX6 cX6_tons 4 3 (some .int) := ⟨kw465, kw466, kw1, kw467, by decide +kernel⟩
theorem mX6_wall : CM yX6_wall RX6 cX6_wall 9 1 (some .int) := ⟨kw645, kw646, kw1, kw647, by decide +kernel⟩
theorem mX6_way : CM yX6_way RX6 cX6_way 5 4 (some .int) := ⟨kw418, kw419, kw1, kw420, by decide +kernel⟩
theorem mX6_whyNoRun : CM yX6_whyNoRun RX6 cX6_whyNoRun 2 1 (some .int) := ⟨kw530, ks12, kw1, kw531, by decide +kernel⟩
theorem mX7_addCell : CM yX7_addCell RX7 cX7_addCell 4 2 none := ⟨kw878, ks19, kw8, kw879, by decide +kernel⟩
theorem mX7_addRiver : CM yX7_addRiver RX7 cX7_addRiver 4 3 none := ⟨kw921, ks24, kw8, kw922, by decide +kernel⟩
theorem mX7_addWay : CM yX7_addWay RX7 cX7_addWay 6 5 none := ⟨kw906, ks23, kw8, kw907, by decide +kernel⟩
theorem mX7_alone : CM yX7_alone RX7 cX7_alone 4 1 (some .int) := ⟨kw1037, kw1038, kw8, kw1039, by decide +kernel⟩
theorem mX7_areEnds : CM yX7_areEnds RX7 cX7_areEnds 3 2 (some .boolean) := ⟨kw898, ks21, kw8, kw899, by decide +kernel⟩
theorem mX7_back : CM yX7_back RX7 cX7_back 6 5 (some .int) := ⟨kw1041, kw1042, kw8, kw1043, by decide +kernel⟩
theorem mX7_bestDrop : CM yX7_bestDrop RX7 cX7_bestDrop 9 1 (some .int) := ⟨kw1049, kw1050, kw8, kw1051, by decide +kernel⟩
theorem mX7_bestPlan : CM yX7_bestPlan RX7 cX7_bestPlan 9 1 (some .int) := ⟨kw1053, kw1054, kw8, kw1055, by decide +kernel⟩
theorem mX7_carry : CM yX7_carry RX7 cX7_carry 2 1 (some .int) := ⟨kw1132, ks52, kw8, kw1133, by decide +kernel⟩
theorem mX7_carryAll : CM yX7_carryAll RX7 cX7_carryAll 2 0 none := ⟨kw1128, ks51, kw8, kw1129, by decide +kernel⟩
theorem mX7_cell : CM yX7_cell RX7 cX7_cell 3 2 (some .int) := ⟨kw869, kw870, kw8, kw871, by decide +kernel⟩
theorem mX7_chosen : CM yX7_chosen RX7 cX7_chosen 3 1 (some .int) := ⟨kw972, ks29, kw8, kw973, by decide +kernel⟩
theorem mX7_coast : CM yX7_coast RX7 cX7_coast 7 0 (some .int) := ⟨kw1087, kw1088, kw8, kw1089, by decide +kernel⟩
theorem mX7_comes : CM yX7_comes RX7 cX7_comes 9 1 (some .boolean) := ⟨kw1118, ks50, kw8, kw1119, by decide +kernel⟩
theorem mX7_cost : CM yX7_cost RX7 cX7_cost 2 1 (some .long) := ⟨kw1004, kw1005, kw8, kw1006, by decide +kernel⟩
theorem mX7_costNow : CM yX7_costNow RX7 cX7_costNow 1 0 (some .int) := ⟨kw1018, ks38, kw8, kw1019, by decide +kernel⟩
theorem mX7_costOf : CM yX7_costOf RX7 cX7_costOf 5 1 (some .long) := ⟨kw1010, ks36, kw8, kw1011, by decide +kernel⟩
theorem mX7_count : CM yX7_count RX7 cX7_count 4 1 (some .int) := ⟨kw1139, kw1140, kw8, kw1141, by decide +kernel⟩
theorem mX7_deepest : CM yX7_deepest RX7 cX7_deepest 4 0 (some .int) := ⟨kw980, ks31, kw8, kw981, by decide +kernel⟩
theorem mX7_depth : CM yX7_depth RX7 cX7_depth 2 1 (some .int) := ⟨kw937, kw938, kw8, kw939, by decide +kernel⟩
theorem mX7_depthOf : CM yX7_depthOf RX7 cX7_depthOf 3 1 (some .int) := ⟨kw942, ks25, kw8, kw943, by decide +kernel⟩
theorem mX7_dredger : CM yX7_dredger RX7 cX7_dredger 4 2 (some .int) := ⟨kw958, kw959, kw8, kw960, by decide +kernel⟩
theorem mX7_feed : CM yX7_feed RX7 cX7_feed 5 2 (some .int) := ⟨kw1082, kw1083, kw8, kw1084, by decide +kernel⟩
theorem mX7_feetLacking : CM yX7_feetLacking RX7 cX7_feetLacking 5 1 (some .int) := ⟨kw1022, ks39, kw8, kw1023, by decide +kernel⟩
theorem mX7_flow : CM yX7_flow RX7 cX7_flow 5 0 none := ⟨kw996, ks34, kw8, kw997, by decide +kernel⟩
theorem mX7_go : CM yX7_go RX7 cX7_go 3 1 (some .int) := ⟨kw983, kw984, kw8, kw985, by decide +kernel⟩
theorem mX7_here : CM yX7_here RX7 cX7_here 1 0 (some .int) := ⟨kw1096, ks45, kw8, kw1097, by decide +kernel⟩
theorem mX7_holds : CM yX7_holds RX7 cX7_holds 2 1 (some .int) := ⟨kw1029, kw1030, kw8, kw1031, by decide +kernel⟩
theorem mX7_holdsFor : CM yX7_holdsFor RX7 cX7_holdsFor 4 1 (some .int) := ⟨kw1034, ks41, kw8, kw1035, by decide +kernel⟩
theorem mX7_image : CM yX7_image RX7 cX7_image 1 0 (some .int) := ⟨kw1123, kw1124, kw8, kw1125, by decide +kernel⟩
theorem mX7_in : CS yX7_in RX7 cX7_in 6 3 (some .boolean) := ⟨kw889, kw8, kw890, by decide +kernel⟩
theorem mX7_isCell : CM yX7_isCell RX7 cX7_isCell 2 1 (some .boolean) := ⟨kw886, ks20, kw8, kw887, by decide +kernel⟩
theorem mX7_isStuff : CS yX7_isStuff RX7 cX7_isStuff 1 1 (some .boolean) := ⟨kw917, kw8, kw918, by decide +kernel⟩
theorem mX7_judge : CM yX7_judge RX7 cX7_judge 5 1 (some .int) := ⟨kw1077, kw1078, kw8, kw1079, by decide +kernel⟩
theorem mX7_kindAt : CM yX7_kindAt RX7 cX7_kindAt 2 1 (some .int) := ⟨kw968, ks28, kw8, kw969, by decide +kernel⟩
theorem mX7_lackingMost : CM yX7_lackingMost RX7 cX7_lackingMost 4 0 (some .int) := ⟨kw976, ks30, kw8, kw977, by decide +kernel⟩
theorem mX7_lacks : CM yX7_lacks RX7 cX7_lacks 2 1 (some .int) := ⟨kw949, kw950, kw8, kw951, by decide +kernel⟩
theorem mX7_lacksOf : CM yX7_lacksOf RX7 cX7_lacksOf 2 1 (some .int) := ⟨kw954, ks27, kw8, kw955, by decide +kernel⟩
theorem mX7_leastCap : CM yX7_leastCap RX7 cX7_leastCap 5 1 (some .int) := ⟨kw1057, kw1058, kw8, kw1059, by decide +kernel⟩
theorem mX7_moon : CM yX7_moon RX7 cX7_moon 5 2 (some .int) := ⟨kw924, kw925, kw8, kw926, by decide +kernel⟩
theorem mX7_partsFrom : CM yX7_partsFrom RX7 cX7_partsFrom 6 3 (some .int) := ⟨kw902, ks22, kw8, kw903, by decide +kernel⟩
theorem mX7_passTide : CM yX7_passTide RX7 cX7_passTide 1 0 none := ⟨kw992, ks33, kw8, kw993, by decide +kernel⟩
theorem mX7_put : CM yX7_put RX7 cX7_put 7 4 (some .int) := ⟨kw928, kw929, kw8, kw930, by decide +kernel⟩
theorem mX7_putBack : CM yX7_putBack RX7 cX7_putBack 2 0 none := ⟨kw1026, ks40, kw8, kw1027, by decide +kernel⟩
theorem mX7_readDigit : CM yX7_readDigit RX7 cX7_readDigit 2 0 (some .int) := ⟨kw1108, ks48, kw8, kw1109, by decide +kernel⟩
theorem mX7_readNumber : CM yX7_readNumber RX7 cX7_readNumber 3 0 (some .int) := ⟨kw1104, ks47, kw8, kw1105, by decide +kernel⟩
theorem mX7_readOf : CM yX7_readOf RX7 cX7_readOf 4 2 (some .int) := ⟨kw1114, ks49, kw8, kw1115, by decide +kernel⟩
theorem mX7_readStatement : CM yX7_readStatement RX7 cX7_readStatement 3 0 none := ⟨kw1092, ks44, kw8, kw1093, by decide +kernel⟩
theorem mX7_refuse : CM yX7_refuse RX7 cX7_refuse 2 1 (some .int) := ⟨kw874, ks18, kw8, kw875, by decide +kernel⟩
theorem mX7_restore : CM yX7_restore RX7 cX7_restore 1 0 (some .int) := ⟨kw1135, kw1136, kw8, kw1137, by decide +kernel⟩
theorem mX7_river : CM yX7_river RX7 cX7_river 4 3 (some .int) := ⟨kw913, kw914, kw8, kw915, by decide +kernel⟩
theorem mX7_row : CM yX7_row RX7 cX7_row 2 1 (some .int) := ⟨kw1073, kw1074, kw8, kw1075, by decide +kernel⟩
theorem mX7_save : CM yX7_save RX7 cX7_save 2 0 none := ⟨kw1014, ks37, kw8, kw1015, by decide +kernel⟩
theorem mX7_set : CM yX7_set RX7 cX7_set 5 3 (some .int) := ⟨kw881, kw882, kw8, kw883, by decide +kernel⟩
theorem mX7_settledAfter : CM yX7_settledAfter RX7 cX7_settledAfter 5 2 (some .int) := ⟨kw1070, ks43, kw8, kw1071, by decide +kernel⟩
theorem mX7_settledIn : CM yX7_settledIn RX7 cX7_settledIn 2 1 (some .int) := ⟨kw946, ks26, kw8, kw947, by decide +kernel⟩
theorem mX7_share : CM yX7_share RX7 cX7_share 3 2 (some .int) := ⟨kw1065, kw1066, kw8, kw1067, by decide +kernel⟩
theorem mX7_shut : CM yX7_shut RX7 cX7_shut 4 2 (some .int) := ⟨kw909, kw910, kw8, kw911, by decide +kernel⟩
theorem mX7_take : CM yX7_take RX7 cX7_take 6 1 none := ⟨kw1001, ks35, kw8, kw1002, by decide +kernel⟩
theorem mX7_takeSign : CM yX7_takeSign RX7 cX7_takeSign 2 1 none := ⟨kw1100, ks46, kw8, kw1101, by decide +kernel⟩
theorem mX7_takes : CM yX7_takes RX7 cX7_takes 1 0 (some .int) := ⟨kw963, kw964, kw8, kw965, by decide +kernel⟩
theorem mX7_tons : CM yX7_tons RX7 cX7_tons 4 3 (some .int) := ⟨kw933, kw934, kw8, kw935, by decide +kernel⟩
theorem mX7_tonsAfter : CM yX7_tonsAfter RX7 cX7_tonsAfter 8 5 (some .int) := ⟨kw1046, ks42, kw8, kw1047, by decide +kernel⟩
theorem mX7_wall : CM yX7_wall RX7 cX7_wall 8 1 (some .int) := ⟨kw1061, kw1062, kw8, kw1063, by decide +kernel⟩
theorem mX7_way : CM yX7_way RX7 cX7_way 5 4 (some .int) := ⟨kw893, kw894, kw8, kw895, by decide +kernel⟩
theorem mX7_wrongTides : CM yX7_wrongTides RX7 cX7_wrongTides 2 1 (some .int) := ⟨kw988, ks32, kw8, kw989, by decide +kernel⟩
theorem nw0 : Cond.methodLinkNest RX6 9 yX3_init "HarbourMud" ∈ nestW := List.mem_of_getElem? (i := 0) rfl
theorem nw1 : Cond.methodLinkNest RX3 11 yX0_init "HarbourMud" ∈ nestW := List.mem_of_getElem? (i := 1) rfl
theorem nw2 : Cond.methodLinkNest RX3 20 yX5_init "HarbourMud" ∈ nestW := List.mem_of_getElem? (i := 2) rfl
theorem nw3 : Cond.methodLinkNest RX3 27 yX4_init "HarbourMud" ∈ nestW := List.mem_of_getElem? (i := 3) rfl
theorem nw4 : Cond.methodLinkNest RX3 34 yX2_init "HarbourMud" ∈ nestW := List.mem_of_getElem? (i := 4) rfl
theorem nw5 : Cond.methodLinkNest RX6 28 yX1_init "HarbourMud" ∈ nestW := List.mem_of_getElem? (i := 5) rfl
theorem nw6 : Cond.methodLinkNest RX3 82 yX6_isKind "HarbourMud" ∈ nestW := List.mem_of_getElem? (i := 6) rfl
theorem nw7 : Cond.methodLinkNest RX3 85 yX6_isStuff "HarbourMud" ∈ nestW := List.mem_of_getElem? (i := 7) rfl
theorem nw8 : Cond.methodLinkNest RX0 47 yX6_depthAbove "HarbourMud" ∈ nestW := List.mem_of_getElem? (i := 8) rfl
theorem nw9 : Cond.methodLinkNest RX0 63 yX6_heapOf "HarbourMud" ∈ nestW := List.mem_of_getElem? (i := 9) rfl
theorem nw10 : Cond.methodLinkNest RX0 69 yX6_partOf "HarbourMud" ∈ nestW := List.mem_of_getElem? (i := 10) rfl
theorem nw11 : Cond.methodLinkNest RX3 154 yX6_heapOf "HarbourMud" ∈ nestW := List.mem_of_getElem? (i := 11) rfl
theorem nw12 : Cond.methodLinkNest RX3 161 yX6_partOf "HarbourMud" ∈ nestW := List.mem_of_getElem? (i := 12) rfl
theorem nw13 : Cond.methodLinkNest RX0 59 yX6_isStuff "HarbourMud" ∈ nestW := List.mem_of_getElem? (i := 13) rfl
end
