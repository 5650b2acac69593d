-- ===== PART A: goes FIRST, ahead of the names: the tables' words, and 'selects' of the private methods out of them =====
/-- a private method of a class that the tables say can be made, by its rows of tables_1 -/
def lw_okq (q : MethodName × Nat) : Prop := (q.1.cls ≠ "java/lang/invoke/MethodHandle" ∧ q.1.cls ≠ "java/lang/invoke/VarHandle") ∧ Cond.instantiable q.1.cls q.2 ∈ tables_1 ∧ Cond.privateMethod q.1 ∈ tables_1 ∧ Cond.instanceMethod q.1 ∈ tables_1
theorem lw_p0 : lw_okq (⟨"PulledCrystal$Reader", "readClause", "(I)V"⟩, 6) := ⟨⟨by decide +kernel, by decide +kernel⟩, List.mem_of_getElem? (i := 29) (by decide +kernel), List.mem_of_getElem? (i := 446) (by decide +kernel), List.mem_of_getElem? (i := 447) (by decide +kernel)⟩
theorem lw_p1 : lw_okq (⟨"PulledCrystal$Reader", "nextByte", "()I"⟩, 6) := ⟨⟨by decide +kernel, by decide +kernel⟩, List.mem_of_getElem? (i := 29) (by decide +kernel), List.mem_of_getElem? (i := 450) (by decide +kernel), List.mem_of_getElem? (i := 451) (by decide +kernel)⟩
theorem lw_p2 : lw_okq (⟨"PulledCrystal$Reader", "clauseKind", "()I"⟩, 6) := ⟨⟨by decide +kernel, by decide +kernel⟩, List.mem_of_getElem? (i := 29) (by decide +kernel), List.mem_of_getElem? (i := 458) (by decide +kernel), List.mem_of_getElem? (i := 459) (by decide +kernel)⟩
theorem lw_p3 : lw_okq (⟨"PulledCrystal$Reader", "isWord", "(Ljava/lang/String;)Z"⟩, 6) := ⟨⟨by decide +kernel, by decide +kernel⟩, List.mem_of_getElem? (i := 29) (by decide +kernel), List.mem_of_getElem? (i := 463) (by decide +kernel), List.mem_of_getElem? (i := 464) (by decide +kernel)⟩
theorem lw_p4 : lw_okq (⟨"PulledCrystal$Reader", "fail", "(II)V"⟩, 6) := ⟨⟨by decide +kernel, by decide +kernel⟩, List.mem_of_getElem? (i := 29) (by decide +kernel), List.mem_of_getElem? (i := 523) (by decide +kernel), List.mem_of_getElem? (i := 524) (by decide +kernel)⟩
theorem lw_p5 : lw_okq (⟨"PulledCrystal$Reader", "wordEnd", "()I"⟩, 6) := ⟨⟨by decide +kernel, by decide +kernel⟩, List.mem_of_getElem? (i := 29) (by decide +kernel), List.mem_of_getElem? (i := 531) (by decide +kernel), List.mem_of_getElem? (i := 532) (by decide +kernel)⟩
theorem lw_p6 : lw_okq (⟨"PulledCrystal$Reader", "readNumber", "(I)I"⟩, 6) := ⟨⟨by decide +kernel, by decide +kernel⟩, List.mem_of_getElem? (i := 29) (by decide +kernel), List.mem_of_getElem? (i := 535) (by decide +kernel), List.mem_of_getElem? (i := 536) (by decide +kernel)⟩
theorem lw_p7 : lw_okq (⟨"PulledCrystal$Reader", "readSum", "(I)V"⟩, 6) := ⟨⟨by decide +kernel, by decide +kernel⟩, List.mem_of_getElem? (i := 29) (by decide +kernel), List.mem_of_getElem? (i := 550) (by decide +kernel), List.mem_of_getElem? (i := 551) (by decide +kernel)⟩
theorem lw_p8 : lw_okq (⟨"PulledCrystal$Reader", "readTerm", "(I)V"⟩, 6) := ⟨⟨by decide +kernel, by decide +kernel⟩, List.mem_of_getElem? (i := 29) (by decide +kernel), List.mem_of_getElem? (i := 554) (by decide +kernel), List.mem_of_getElem? (i := 555) (by decide +kernel)⟩
theorem lw_p9 : lw_okq (⟨"PulledCrystal$Reader", "readValue", "(I)V"⟩, 6) := ⟨⟨by decide +kernel, by decide +kernel⟩, List.mem_of_getElem? (i := 29) (by decide +kernel), List.mem_of_getElem? (i := 558) (by decide +kernel), List.mem_of_getElem? (i := 559) (by decide +kernel)⟩
theorem lw_p10 : lw_okq (⟨"PulledCrystal$Reader", "opens", "(I)Z"⟩, 6) := ⟨⟨by decide +kernel, by decide +kernel⟩, List.mem_of_getElem? (i := 29) (by decide +kernel), List.mem_of_getElem? (i := 562) (by decide +kernel), List.mem_of_getElem? (i := 563) (by decide +kernel)⟩
theorem lw_p11 : lw_okq (⟨"PulledCrystal$Reader", "expect", "(I)V"⟩, 6) := ⟨⟨by decide +kernel, by decide +kernel⟩, List.mem_of_getElem? (i := 29) (by decide +kernel), List.mem_of_getElem? (i := 566) (by decide +kernel), List.mem_of_getElem? (i := 567) (by decide +kernel)⟩
theorem lw_p12 : lw_okq (⟨"PulledCrystal$Reader", "countTold", "(I)V"⟩, 6) := ⟨⟨by decide +kernel, by decide +kernel⟩, List.mem_of_getElem? (i := 29) (by decide +kernel), List.mem_of_getElem? (i := 575) (by decide +kernel), List.mem_of_getElem? (i := 576) (by decide +kernel)⟩
theorem lw_p13 : lw_okq (⟨"PulledCrystal$Reader", "wordNumber", "()I"⟩, 6) := ⟨⟨by decide +kernel, by decide +kernel⟩, List.mem_of_getElem? (i := 29) (by decide +kernel), List.mem_of_getElem? (i := 579) (by decide +kernel), List.mem_of_getElem? (i := 580) (by decide +kernel)⟩
theorem lw_p14 : lw_okq (⟨"PulledCrystal$Reader", "takesWord", "(Ljava/lang/String;)Z"⟩, 6) := ⟨⟨by decide +kernel, by decide +kernel⟩, List.mem_of_getElem? (i := 29) (by decide +kernel), List.mem_of_getElem? (i := 590) (by decide +kernel), List.mem_of_getElem? (i := 591) (by decide +kernel)⟩
theorem lw_p15 : lw_okq (⟨"PulledCrystal$Reader", "readTest", "(I)V"⟩, 6) := ⟨⟨by decide +kernel, by decide +kernel⟩, List.mem_of_getElem? (i := 29) (by decide +kernel), List.mem_of_getElem? (i := 594) (by decide +kernel), List.mem_of_getElem? (i := 595) (by decide +kernel)⟩
def lw_privs_1 : List (MethodName × Nat) := [(⟨"PulledCrystal$Reader", "readClause", "(I)V"⟩, 6), (⟨"PulledCrystal$Reader", "nextByte", "()I"⟩, 6), (⟨"PulledCrystal$Reader", "clauseKind", "()I"⟩, 6), (⟨"PulledCrystal$Reader", "isWord", "(Ljava/lang/String;)Z"⟩, 6), (⟨"PulledCrystal$Reader", "fail", "(II)V"⟩, 6), (⟨"PulledCrystal$Reader", "wordEnd", "()I"⟩, 6), (⟨"PulledCrystal$Reader", "readNumber", "(I)I"⟩, 6), (⟨"PulledCrystal$Reader", "readSum", "(I)V"⟩, 6), (⟨"PulledCrystal$Reader", "readTerm", "(I)V"⟩, 6), (⟨"PulledCrystal$Reader", "readValue", "(I)V"⟩, 6), (⟨"PulledCrystal$Reader", "opens", "(I)Z"⟩, 6), (⟨"PulledCrystal$Reader", "expect", "(I)V"⟩, 6), (⟨"PulledCrystal$Reader", "countTold", "(I)V"⟩, 6), (⟨"PulledCrystal$Reader", "wordNumber", "()I"⟩, 6), (⟨"PulledCrystal$Reader", "takesWord", "(Ljava/lang/String;)Z"⟩, 6), (⟨"PulledCrystal$Reader", "readTest", "(I)V"⟩, 6)]
theorem lw_r1 : ∀ q ∈ lw_privs_1, lw_okq q := List.forall_mem_cons.mpr ⟨lw_p0, List.forall_mem_cons.mpr ⟨lw_p1, List.forall_mem_cons.mpr ⟨lw_p2, List.forall_mem_cons.mpr ⟨lw_p3, List.forall_mem_cons.mpr ⟨lw_p4, List.forall_mem_cons.mpr ⟨lw_p5, List.forall_mem_cons.mpr ⟨lw_p6, List.forall_mem_cons.mpr ⟨lw_p7, List.forall_mem_cons.mpr ⟨lw_p8, List.forall_mem_cons.mpr ⟨lw_p9, List.forall_mem_cons.mpr ⟨lw_p10, List.forall_mem_cons.mpr ⟨lw_p11, List.forall_mem_cons.mpr ⟨lw_p12, List.forall_mem_cons.mpr ⟨lw_p13, List.forall_mem_cons.mpr ⟨lw_p14, List.forall_mem_cons.mpr ⟨lw_p15, fun _ h => absurd h List.not_mem_nil⟩⟩⟩⟩⟩⟩⟩⟩⟩⟩⟩⟩⟩⟩⟩⟩
theorem lw_p16 : lw_okq (⟨"PulledCrystal$Reader", "readPart", "(I)V"⟩, 6) := ⟨⟨by decide +kernel, by decide +kernel⟩, List.mem_of_getElem? (i := 29) (by decide +kernel), List.mem_of_getElem? (i := 598) (by decide +kernel), List.mem_of_getElem? (i := 599) (by decide +kernel)⟩
theorem lw_p17 : lw_okq (⟨"PulledCrystal$Reader", "readFact", "(I)V"⟩, 6) := ⟨⟨by decide +kernel, by decide +kernel⟩, List.mem_of_getElem? (i := 29) (by decide +kernel), List.mem_of_getElem? (i := 602) (by decide +kernel), List.mem_of_getElem? (i := 603) (by decide +kernel)⟩
theorem lw_p18 : lw_okq (⟨"PulledCrystal$Reader", "readSign", "()I"⟩, 6) := ⟨⟨by decide +kernel, by decide +kernel⟩, List.mem_of_getElem? (i := 29) (by decide +kernel), List.mem_of_getElem? (i := 607) (by decide +kernel), List.mem_of_getElem? (i := 608) (by decide +kernel)⟩
theorem lw_p19 : lw_okq (⟨"PulledCrystal$Pot", "passMinute", "(LPulledCrystal$Desk;)V"⟩, 19) := ⟨⟨by decide +kernel, by decide +kernel⟩, List.mem_of_getElem? (i := 145) (by decide +kernel), List.mem_of_getElem? (i := 711) (by decide +kernel), List.mem_of_getElem? (i := 712) (by decide +kernel)⟩
theorem lw_p20 : lw_okq (⟨"PulledCrystal$Pot", "tellWords", "(LPulledCrystal$Desk;)V"⟩, 19) := ⟨⟨by decide +kernel, by decide +kernel⟩, List.mem_of_getElem? (i := 145) (by decide +kernel), List.mem_of_getElem? (i := 715) (by decide +kernel), List.mem_of_getElem? (i := 716) (by decide +kernel)⟩
theorem lw_p21 : lw_okq (⟨"PulledCrystal$Pot", "wideSeen", "(I)I"⟩, 19) := ⟨⟨by decide +kernel, by decide +kernel⟩, List.mem_of_getElem? (i := 145) (by decide +kernel), List.mem_of_getElem? (i := 728) (by decide +kernel), List.mem_of_getElem? (i := 729) (by decide +kernel)⟩
theorem lw_p22 : lw_okq (⟨"PulledCrystal$Desk", "reckon", "(LPulledCrystal$Law;II)J"⟩, 3) := ⟨⟨by decide +kernel, by decide +kernel⟩, List.mem_of_getElem? (i := 128) (by decide +kernel), List.mem_of_getElem? (i := 765) (by decide +kernel), List.mem_of_getElem? (i := 766) (by decide +kernel)⟩
theorem lw_p23 : lw_okq (⟨"PulledCrystal$Desk", "push", "(J)V"⟩, 3) := ⟨⟨by decide +kernel, by decide +kernel⟩, List.mem_of_getElem? (i := 128) (by decide +kernel), List.mem_of_getElem? (i := 773) (by decide +kernel), List.mem_of_getElem? (i := 774) (by decide +kernel)⟩
theorem lw_p24 : lw_okq (⟨"PulledCrystal$Desk", "pop", "()J"⟩, 3) := ⟨⟨by decide +kernel, by decide +kernel⟩, List.mem_of_getElem? (i := 128) (by decide +kernel), List.mem_of_getElem? (i := 777) (by decide +kernel), List.mem_of_getElem? (i := 778) (by decide +kernel)⟩
theorem lw_p25 : lw_okq (⟨"PulledCrystal$Pot", "swirled", "()J"⟩, 19) := ⟨⟨by decide +kernel, by decide +kernel⟩, List.mem_of_getElem? (i := 145) (by decide +kernel), List.mem_of_getElem? (i := 800) (by decide +kernel), List.mem_of_getElem? (i := 801) (by decide +kernel)⟩
theorem lw_p26 : lw_okq (⟨"PulledCrystal$Pot", "addRow", "()V"⟩, 19) := ⟨⟨by decide +kernel, by decide +kernel⟩, List.mem_of_getElem? (i := 145) (by decide +kernel), List.mem_of_getElem? (i := 812) (by decide +kernel), List.mem_of_getElem? (i := 813) (by decide +kernel)⟩
theorem lw_p27 : lw_okq (⟨"PulledCrystal$Pot", "howBehindMinute", "()I"⟩, 19) := ⟨⟨by decide +kernel, by decide +kernel⟩, List.mem_of_getElem? (i := 145) (by decide +kernel), List.mem_of_getElem? (i := 830) (by decide +kernel), List.mem_of_getElem? (i := 831) (by decide +kernel)⟩
theorem lw_p28 : lw_okq (⟨"PulledCrystal$Pot", "isBody", "(II)Z"⟩, 19) := ⟨⟨by decide +kernel, by decide +kernel⟩, List.mem_of_getElem? (i := 145) (by decide +kernel), List.mem_of_getElem? (i := 908) (by decide +kernel), List.mem_of_getElem? (i := 909) (by decide +kernel)⟩
theorem lw_p29 : lw_okq (⟨"PulledCrystal$Pot", "thinnestOfNeck", "(I)I"⟩, 19) := ⟨⟨by decide +kernel, by decide +kernel⟩, List.mem_of_getElem? (i := 145) (by decide +kernel), List.mem_of_getElem? (i := 994) (by decide +kernel), List.mem_of_getElem? (i := 995) (by decide +kernel)⟩
theorem lw_p30 : lw_okq (⟨"PulledCrystal", "mostCoins", "(LPulledCrystal$Pot;)I"⟩, 19) := ⟨⟨by decide +kernel, by decide +kernel⟩, List.mem_of_getElem? (i := 21) (by decide +kernel), List.mem_of_getElem? (i := 1014) (by decide +kernel), List.mem_of_getElem? (i := 1015) (by decide +kernel)⟩
theorem lw_p31 : lw_okq (⟨"PulledCrystal$Cutter", "offerPieces", "(IILPulledCrystal$Want;)V"⟩, 6) := ⟨⟨by decide +kernel, by decide +kernel⟩, List.mem_of_getElem? (i := 245) (by decide +kernel), List.mem_of_getElem? (i := 1033) (by decide +kernel), List.mem_of_getElem? (i := 1034) (by decide +kernel)⟩
def lw_privs_2 : List (MethodName × Nat) := [(⟨"PulledCrystal$Reader", "readPart", "(I)V"⟩, 6), (⟨"PulledCrystal$Reader", "readFact", "(I)V"⟩, 6), (⟨"PulledCrystal$Reader", "readSign", "()I"⟩, 6), (⟨"PulledCrystal$Pot", "passMinute", "(LPulledCrystal$Desk;)V"⟩, 19), (⟨"PulledCrystal$Pot", "tellWords", "(LPulledCrystal$Desk;)V"⟩, 19), (⟨"PulledCrystal$Pot", "wideSeen", "(I)I"⟩, 19), (⟨"PulledCrystal$Desk", "reckon", "(LPulledCrystal$Law;II)J"⟩, 3), (⟨"PulledCrystal$Desk", "push", "(J)V"⟩, 3), (⟨"PulledCrystal$Desk", "pop", "()J"⟩, 3), (⟨"PulledCrystal$Pot", "swirled", "()J"⟩, 19), (⟨"PulledCrystal$Pot", "addRow", "()V"⟩, 19), (⟨"PulledCrystal$Pot", "howBehindMinute", "()I"⟩, 19), (⟨"PulledCrystal$Pot", "isBody", "(II)Z"⟩, 19), (⟨"PulledCrystal$Pot", "thinnestOfNeck", "(I)I"⟩, 19), (⟨"PulledCrystal", "mostCoins", "(LPulledCrystal$Pot;)I"⟩, 19), (⟨"PulledCrystal$Cutter", "offerPieces", "(IILPulledCrystal$Want;)V"⟩, 6)]
theorem lw_r2 : ∀ q ∈ lw_privs_2, lw_okq q := List.forall_mem_cons.mpr ⟨lw_p16, List.forall_mem_cons.mpr ⟨lw_p17, List.forall_mem_cons.mpr ⟨lw_p18, List.forall_mem_cons.mpr ⟨lw_p19, List.forall_mem_cons.mpr ⟨lw_p20, List.forall_mem_cons.mpr ⟨lw_p21, List.forall_mem_cons.mpr ⟨lw_p22, List.forall_mem_cons.mpr ⟨lw_p23, List.forall_mem_cons.mpr ⟨lw_p24, List.forall_mem_cons.mpr ⟨lw_p25, List.forall_mem_cons.mpr ⟨lw_p26, List.forall_mem_cons.mpr ⟨lw_p27, List.forall_mem_cons.mpr ⟨lw_p28, List.forall_mem_cons.mpr ⟨lw_p29, List.forall_mem_cons.mpr ⟨lw_p30, List.forall_mem_cons.mpr ⟨lw_p31, fun _ h => absurd h List.not_mem_nil⟩⟩⟩⟩⟩⟩⟩⟩⟩⟩⟩⟩⟩⟩⟩⟩
theorem lw_p32 : lw_okq (⟨"PulledCrystal$Cutter", "offer", "(IIII)V"⟩, 6) := ⟨⟨by decide +kernel, by decide +kernel⟩, List.mem_of_getElem? (i := 245) (by decide +kernel), List.mem_of_getElem? (i := 1045) (by decide +kernel), List.mem_of_getElem? (i := 1046) (by decide +kernel)⟩
theorem lw_p33 : lw_okq (⟨"PulledCrystal", "rehearse", "(LPulledCrystal$Law;II)V"⟩, 19) := ⟨⟨by decide +kernel, by decide +kernel⟩, List.mem_of_getElem? (i := 21) (by decide +kernel), List.mem_of_getElem? (i := 1091) (by decide +kernel), List.mem_of_getElem? (i := 1092) (by decide +kernel)⟩
theorem lw_p34 : lw_okq (⟨"PulledCrystal", "isImage", "(I)Z"⟩, 19) := ⟨⟨by decide +kernel, by decide +kernel⟩, List.mem_of_getElem? (i := 21) (by decide +kernel), List.mem_of_getElem? (i := 1205) (by decide +kernel), List.mem_of_getElem? (i := 1206) (by decide +kernel)⟩
theorem lw_p35 : lw_okq (⟨"PulledCrystalModel", "four", "(I)V"⟩, 49) := ⟨⟨by decide +kernel, by decide +kernel⟩, List.mem_of_getElem? (i := 1233) (by decide +kernel), List.mem_of_getElem? (i := 1391) (by decide +kernel), List.mem_of_getElem? (i := 1392) (by decide +kernel)⟩
theorem lw_p36 : lw_okq (⟨"PulledCrystalModel", "reads", "(I)I"⟩, 49) := ⟨⟨by decide +kernel, by decide +kernel⟩, List.mem_of_getElem? (i := 1233) (by decide +kernel), List.mem_of_getElem? (i := 1403) (by decide +kernel), List.mem_of_getElem? (i := 1404) (by decide +kernel)⟩
theorem lw_p37 : lw_okq (⟨"PulledCrystalModel", "clauseHere", "()Z"⟩, 49) := ⟨⟨by decide +kernel, by decide +kernel⟩, List.mem_of_getElem? (i := 1233) (by decide +kernel), List.mem_of_getElem? (i := 1407) (by decide +kernel), List.mem_of_getElem? (i := 1408) (by decide +kernel)⟩
theorem lw_p38 : lw_okq (⟨"PulledCrystalModel", "see", "()I"⟩, 49) := ⟨⟨by decide +kernel, by decide +kernel⟩, List.mem_of_getElem? (i := 1233) (by decide +kernel), List.mem_of_getElem? (i := 1411) (by decide +kernel), List.mem_of_getElem? (i := 1412) (by decide +kernel)⟩
theorem lw_p39 : lw_okq (⟨"PulledCrystalModel", "isWord", "(J)Z"⟩, 49) := ⟨⟨by decide +kernel, by decide +kernel⟩, List.mem_of_getElem? (i := 1233) (by decide +kernel), List.mem_of_getElem? (i := 1416) (by decide +kernel), List.mem_of_getElem? (i := 1417) (by decide +kernel)⟩
theorem lw_p40 : lw_okq (⟨"PulledCrystalModel", "isLetter", "(I)Z"⟩, 49) := ⟨⟨by decide +kernel, by decide +kernel⟩, List.mem_of_getElem? (i := 1233) (by decide +kernel), List.mem_of_getElem? (i := 1420) (by decide +kernel), List.mem_of_getElem? (i := 1421) (by decide +kernel)⟩
theorem lw_p41 : lw_okq (⟨"PulledCrystalModel", "fails", "(II)Z"⟩, 49) := ⟨⟨by decide +kernel, by decide +kernel⟩, List.mem_of_getElem? (i := 1233) (by decide +kernel), List.mem_of_getElem? (i := 1429) (by decide +kernel), List.mem_of_getElem? (i := 1430) (by decide +kernel)⟩
theorem lw_p42 : lw_okq (⟨"PulledCrystalModel", "told", "([III)Z"⟩, 49) := ⟨⟨by decide +kernel, by decide +kernel⟩, List.mem_of_getElem? (i := 1233) (by decide +kernel), List.mem_of_getElem? (i := 1433) (by decide +kernel), List.mem_of_getElem? (i := 1434) (by decide +kernel)⟩
theorem lw_p43 : lw_okq (⟨"PulledCrystalModel", "passWord", "()V"⟩, 49) := ⟨⟨by decide +kernel, by decide +kernel⟩, List.mem_of_getElem? (i := 1233) (by decide +kernel), List.mem_of_getElem? (i := 1437) (by decide +kernel), List.mem_of_getElem? (i := 1438) (by decide +kernel)⟩
theorem lw_p44 : lw_okq (⟨"PulledCrystalModel", "number", "(I)Z"⟩, 49) := ⟨⟨by decide +kernel, by decide +kernel⟩, List.mem_of_getElem? (i := 1233) (by decide +kernel), List.mem_of_getElem? (i := 1441) (by decide +kernel), List.mem_of_getElem? (i := 1442) (by decide +kernel)⟩
theorem lw_p45 : lw_okq (⟨"PulledCrystalModel", "isDigit", "(I)Z"⟩, 49) := ⟨⟨by decide +kernel, by decide +kernel⟩, List.mem_of_getElem? (i := 1233) (by decide +kernel), List.mem_of_getElem? (i := 1445) (by decide +kernel), List.mem_of_getElem? (i := 1446) (by decide +kernel)⟩
theorem lw_p46 : lw_okq (⟨"PulledCrystalModel", "summed", "(I)Z"⟩, 49) := ⟨⟨by decide +kernel, by decide +kernel⟩, List.mem_of_getElem? (i := 1233) (by decide +kernel), List.mem_of_getElem? (i := 1449) (by decide +kernel), List.mem_of_getElem? (i := 1450) (by decide +kernel)⟩
theorem lw_p47 : lw_okq (⟨"PulledCrystalModel", "sum", "()Z"⟩, 49) := ⟨⟨by decide +kernel, by decide +kernel⟩, List.mem_of_getElem? (i := 1233) (by decide +kernel), List.mem_of_getElem? (i := 1453) (by decide +kernel), List.mem_of_getElem? (i := 1454) (by decide +kernel)⟩
def lw_privs_3 : List (MethodName × Nat) := [(⟨"PulledCrystal$Cutter", "offer", "(IIII)V"⟩, 6), (⟨"PulledCrystal", "rehearse", "(LPulledCrystal$Law;II)V"⟩, 19), (⟨"PulledCrystal", "isImage", "(I)Z"⟩, 19), (⟨"PulledCrystalModel", "four", "(I)V"⟩, 49), (⟨"PulledCrystalModel", "reads", "(I)I"⟩, 49), (⟨"PulledCrystalModel", "clauseHere", "()Z"⟩, 49), (⟨"PulledCrystalModel", "see", "()I"⟩, 49), (⟨"PulledCrystalModel", "isWord", "(J)Z"⟩, 49), (⟨"PulledCrystalModel", "isLetter", "(I)Z"⟩, 49), (⟨"PulledCrystalModel", "fails", "(II)Z"⟩, 49), (⟨"PulledCrystalModel", "told", "([III)Z"⟩, 49), (⟨"PulledCrystalModel", "passWord", "()V"⟩, 49), (⟨"PulledCrystalModel", "number", "(I)Z"⟩, 49), (⟨"PulledCrystalModel", "isDigit", "(I)Z"⟩, 49), (⟨"PulledCrystalModel", "summed", "(I)Z"⟩, 49), (⟨"PulledCrystalModel", "sum", "()Z"⟩, 49)]
theorem lw_r3 : ∀ q ∈ lw_privs_3, lw_okq q := List.forall_mem_cons.mpr ⟨lw_p32, List.forall_mem_cons.mpr ⟨lw_p33, List.forall_mem_cons.mpr ⟨lw_p34, List.forall_mem_cons.mpr ⟨lw_p35, List.forall_mem_cons.mpr ⟨lw_p36, List.forall_mem_cons.mpr ⟨lw_p37, List.forall_mem_cons.mpr ⟨lw_p38, List.forall_mem_cons.mpr ⟨lw_p39, List.forall_mem_cons.mpr ⟨lw_p40, List.forall_mem_cons.mpr ⟨lw_p41, List.forall_mem_cons.mpr ⟨lw_p42, List.forall_mem_cons.mpr ⟨lw_p43, List.forall_mem_cons.mpr ⟨lw_p44, List.forall_mem_cons.mpr ⟨lw_p45, List.forall_mem_cons.mpr ⟨lw_p46, List.forall_mem_cons.mpr ⟨lw_p47, fun _ h => absurd h List.not_mem_nil⟩⟩⟩⟩⟩⟩⟩⟩⟩⟩⟩⟩⟩⟩⟩⟩
theorem lw_p48 : lw_okq (⟨"PulledCrystalModel", "value", "()Z"⟩, 49) := ⟨⟨by decide +kernel, by decide +kernel⟩, List.mem_of_getElem? (i := 1233) (by decide +kernel), List.mem_of_getElem? (i := 1457) (by decide +kernel), List.mem_of_getElem? (i := 1458) (by decide +kernel)⟩
theorem lw_p49 : lw_okq (⟨"PulledCrystalModel", "opens", "(I)Z"⟩, 49) := ⟨⟨by decide +kernel, by decide +kernel⟩, List.mem_of_getElem? (i := 1233) (by decide +kernel), List.mem_of_getElem? (i := 1461) (by decide +kernel), List.mem_of_getElem? (i := 1462) (by decide +kernel)⟩
theorem lw_p50 : lw_okq (⟨"PulledCrystalModel", "makes", "(I)Z"⟩, 49) := ⟨⟨by decide +kernel, by decide +kernel⟩, List.mem_of_getElem? (i := 1233) (by decide +kernel), List.mem_of_getElem? (i := 1466) (by decide +kernel), List.mem_of_getElem? (i := 1467) (by decide +kernel)⟩
theorem lw_p51 : lw_okq (⟨"PulledCrystalModel", "puts", "(II)V"⟩, 49) := ⟨⟨by decide +kernel, by decide +kernel⟩, List.mem_of_getElem? (i := 1233) (by decide +kernel), List.mem_of_getElem? (i := 1470) (by decide +kernel), List.mem_of_getElem? (i := 1471) (by decide +kernel)⟩
theorem lw_p52 : lw_okq (⟨"PulledCrystalModel", "wordHere", "()I"⟩, 49) := ⟨⟨by decide +kernel, by decide +kernel⟩, List.mem_of_getElem? (i := 1233) (by decide +kernel), List.mem_of_getElem? (i := 1474) (by decide +kernel), List.mem_of_getElem? (i := 1475) (by decide +kernel)⟩
theorem lw_p53 : lw_okq (⟨"PulledCrystalModel", "closesRound", "(I)V"⟩, 49) := ⟨⟨by decide +kernel, by decide +kernel⟩, List.mem_of_getElem? (i := 1233) (by decide +kernel), List.mem_of_getElem? (i := 1484) (by decide +kernel), List.mem_of_getElem? (i := 1485) (by decide +kernel)⟩
theorem lw_p54 : lw_okq (⟨"PulledCrystalModel", "hasRound", "(I)Z"⟩, 49) := ⟨⟨by decide +kernel, by decide +kernel⟩, List.mem_of_getElem? (i := 1233) (by decide +kernel), List.mem_of_getElem? (i := 1488) (by decide +kernel), List.mem_of_getElem? (i := 1489) (by decide +kernel)⟩
theorem lw_p55 : lw_okq (⟨"PulledCrystalModel", "settles", "(II)V"⟩, 49) := ⟨⟨by decide +kernel, by decide +kernel⟩, List.mem_of_getElem? (i := 1233) (by decide +kernel), List.mem_of_getElem? (i := 1492) (by decide +kernel), List.mem_of_getElem? (i := 1493) (by decide +kernel)⟩
theorem lw_p56 : lw_okq (⟨"PulledCrystalModel", "takesWord", "(J)Z"⟩, 49) := ⟨⟨by decide +kernel, by decide +kernel⟩, List.mem_of_getElem? (i := 1233) (by decide +kernel), List.mem_of_getElem? (i := 1500) (by decide +kernel), List.mem_of_getElem? (i := 1501) (by decide +kernel)⟩
theorem lw_p57 : lw_okq (⟨"PulledCrystalModel", "test", "()Z"⟩, 49) := ⟨⟨by decide +kernel, by decide +kernel⟩, List.mem_of_getElem? (i := 1233) (by decide +kernel), List.mem_of_getElem? (i := 1504) (by decide +kernel), List.mem_of_getElem? (i := 1505) (by decide +kernel)⟩
theorem lw_p58 : lw_okq (⟨"PulledCrystalModel", "fact", "()Z"⟩, 49) := ⟨⟨by decide +kernel, by decide +kernel⟩, List.mem_of_getElem? (i := 1233) (by decide +kernel), List.mem_of_getElem? (i := 1508) (by decide +kernel), List.mem_of_getElem? (i := 1509) (by decide +kernel)⟩
theorem lw_p59 : lw_okq (⟨"PulledCrystalModel", "compare", "()Z"⟩, 49) := ⟨⟨by decide +kernel, by decide +kernel⟩, List.mem_of_getElem? (i := 1233) (by decide +kernel), List.mem_of_getElem? (i := 1513) (by decide +kernel), List.mem_of_getElem? (i := 1514) (by decide +kernel)⟩
theorem lw_p60 : lw_okq (⟨"PulledCrystalModel", "closesSquare", "()V"⟩, 49) := ⟨⟨by decide +kernel, by decide +kernel⟩, List.mem_of_getElem? (i := 1233) (by decide +kernel), List.mem_of_getElem? (i := 1517) (by decide +kernel), List.mem_of_getElem? (i := 1518) (by decide +kernel)⟩
theorem lw_p61 : lw_okq (⟨"PulledCrystalModel", "hasSquare", "()Z"⟩, 49) := ⟨⟨by decide +kernel, by decide +kernel⟩, List.mem_of_getElem? (i := 1233) (by decide +kernel), List.mem_of_getElem? (i := 1521) (by decide +kernel), List.mem_of_getElem? (i := 1522) (by decide +kernel)⟩
theorem lw_p62 : lw_okq (⟨"PulledCrystalModel", "goesOn", "(I)I"⟩, 49) := ⟨⟨by decide +kernel, by decide +kernel⟩, List.mem_of_getElem? (i := 1233) (by decide +kernel), List.mem_of_getElem? (i := 1558) (by decide +kernel), List.mem_of_getElem? (i := 1559) (by decide +kernel)⟩
theorem lw_p63 : lw_okq (⟨"PulledCrystalModel", "minute", "()V"⟩, 49) := ⟨⟨by decide +kernel, by decide +kernel⟩, List.mem_of_getElem? (i := 1233) (by decide +kernel), List.mem_of_getElem? (i := 1562) (by decide +kernel), List.mem_of_getElem? (i := 1563) (by decide +kernel)⟩
def lw_privs_4 : List (MethodName × Nat) := [(⟨"PulledCrystalModel", "value", "()Z"⟩, 49), (⟨"PulledCrystalModel", "opens", "(I)Z"⟩, 49), (⟨"PulledCrystalModel", "makes", "(I)Z"⟩, 49), (⟨"PulledCrystalModel", "puts", "(II)V"⟩, 49), (⟨"PulledCrystalModel", "wordHere", "()I"⟩, 49), (⟨"PulledCrystalModel", "closesRound", "(I)V"⟩, 49), (⟨"PulledCrystalModel", "hasRound", "(I)Z"⟩, 49), (⟨"PulledCrystalModel", "settles", "(II)V"⟩, 49), (⟨"PulledCrystalModel", "takesWord", "(J)Z"⟩, 49), (⟨"PulledCrystalModel", "test", "()Z"⟩, 49), (⟨"PulledCrystalModel", "fact", "()Z"⟩, 49), (⟨"PulledCrystalModel", "compare", "()Z"⟩, 49), (⟨"PulledCrystalModel", "closesSquare", "()V"⟩, 49), (⟨"PulledCrystalModel", "hasSquare", "()Z"⟩, 49), (⟨"PulledCrystalModel", "goesOn", "(I)I"⟩, 49), (⟨"PulledCrystalModel", "minute", "()V"⟩, 49)]
theorem lw_r4 : ∀ q ∈ lw_privs_4, lw_okq q := List.forall_mem_cons.mpr ⟨lw_p48, List.forall_mem_cons.mpr ⟨lw_p49, List.forall_mem_cons.mpr ⟨lw_p50, List.forall_mem_cons.mpr ⟨lw_p51, List.forall_mem_cons.mpr ⟨lw_p52, List.forall_mem_cons.mpr ⟨lw_p53, List.forall_mem_cons.mpr ⟨lw_p54, List.forall_mem_cons.mpr ⟨lw_p55, List.forall_mem_cons.mpr ⟨lw_p56, List.forall_mem_cons.mpr ⟨lw_p57, List.forall_mem_cons.mpr ⟨lw_p58, List.forall_mem_cons.mpr ⟨lw_p59, List.forall_mem_cons.mpr ⟨lw_p60, List.forall_mem_cons.mpr ⟨lw_p61, List.forall_mem_cons.mpr ⟨lw_p62, List.forall_mem_cons.mpr ⟨lw_p63, fun _ h => absurd h List.not_mem_nil⟩⟩⟩⟩⟩⟩⟩⟩⟩⟩⟩⟩⟩⟩⟩⟩
theorem lw_p64 : lw_okq (⟨"PulledCrystalModel", "words", "(I)V"⟩, 49) := ⟨⟨by decide +kernel, by decide +kernel⟩, List.mem_of_getElem? (i := 1233) (by decide +kernel), List.mem_of_getElem? (i := 1566) (by decide +kernel), List.mem_of_getElem? (i := 1567) (by decide +kernel)⟩
theorem lw_p65 : lw_okq (⟨"PulledCrystalModel", "wideAt", "(I)I"⟩, 49) := ⟨⟨by decide +kernel, by decide +kernel⟩, List.mem_of_getElem? (i := 1233) (by decide +kernel), List.mem_of_getElem? (i := 1570) (by decide +kernel), List.mem_of_getElem? (i := 1571) (by decide +kernel)⟩
theorem lw_p66 : lw_okq (⟨"PulledCrystalModel", "rowOf", "(II)I"⟩, 49) := ⟨⟨by decide +kernel, by decide +kernel⟩, List.mem_of_getElem? (i := 1233) (by decide +kernel), List.mem_of_getElem? (i := 1574) (by decide +kernel), List.mem_of_getElem? (i := 1575) (by decide +kernel)⟩
theorem lw_p67 : lw_okq (⟨"PulledCrystalModel", "minded", "(III)I"⟩, 49) := ⟨⟨by decide +kernel, by decide +kernel⟩, List.mem_of_getElem? (i := 1233) (by decide +kernel), List.mem_of_getElem? (i := 1579) (by decide +kernel), List.mem_of_getElem? (i := 1580) (by decide +kernel)⟩
theorem lw_p68 : lw_okq (⟨"PulledCrystalModel", "holding", "(II)I"⟩, 49) := ⟨⟨by decide +kernel, by decide +kernel⟩, List.mem_of_getElem? (i := 1233) (by decide +kernel), List.mem_of_getElem? (i := 1583) (by decide +kernel), List.mem_of_getElem? (i := 1584) (by decide +kernel)⟩
theorem lw_p69 : lw_okq (⟨"PulledCrystalModel", "reckons", "(III)J"⟩, 49) := ⟨⟨by decide +kernel, by decide +kernel⟩, List.mem_of_getElem? (i := 1233) (by decide +kernel), List.mem_of_getElem? (i := 1587) (by decide +kernel), List.mem_of_getElem? (i := 1588) (by decide +kernel)⟩
theorem lw_p70 : lw_okq (⟨"PulledCrystalModel", "push", "(J)V"⟩, 49) := ⟨⟨by decide +kernel, by decide +kernel⟩, List.mem_of_getElem? (i := 1233) (by decide +kernel), List.mem_of_getElem? (i := 1591) (by decide +kernel), List.mem_of_getElem? (i := 1592) (by decide +kernel)⟩
theorem lw_p71 : lw_okq (⟨"PulledCrystalModel", "pop", "()J"⟩, 49) := ⟨⟨by decide +kernel, by decide +kernel⟩, List.mem_of_getElem? (i := 1233) (by decide +kernel), List.mem_of_getElem? (i := 1595) (by decide +kernel), List.mem_of_getElem? (i := 1596) (by decide +kernel)⟩
theorem lw_p72 : lw_okq (⟨"PulledCrystalModel", "widens", "(II)V"⟩, 49) := ⟨⟨by decide +kernel, by decide +kernel⟩, List.mem_of_getElem? (i := 1233) (by decide +kernel), List.mem_of_getElem? (i := 1605) (by decide +kernel), List.mem_of_getElem? (i := 1606) (by decide +kernel)⟩
theorem lw_p73 : lw_okq (⟨"PulledCrystalModel", "isRow", "(I)Z"⟩, 49) := ⟨⟨by decide +kernel, by decide +kernel⟩, List.mem_of_getElem? (i := 1233) (by decide +kernel), List.mem_of_getElem? (i := 1631) (by decide +kernel), List.mem_of_getElem? (i := 1632) (by decide +kernel)⟩
theorem lw_p74 : lw_okq (⟨"PulledCrystalModel", "melts", "(I)V"⟩, 49) := ⟨⟨by decide +kernel, by decide +kernel⟩, List.mem_of_getElem? (i := 1233) (by decide +kernel), List.mem_of_getElem? (i := 1635) (by decide +kernel), List.mem_of_getElem? (i := 1636) (by decide +kernel)⟩
theorem lw_p75 : lw_okq (⟨"PulledCrystalModel", "flawsBehind", "(I)I"⟩, 49) := ⟨⟨by decide +kernel, by decide +kernel⟩, List.mem_of_getElem? (i := 1233) (by decide +kernel), List.mem_of_getElem? (i := 1651) (by decide +kernel), List.mem_of_getElem? (i := 1652) (by decide +kernel)⟩
theorem lw_p76 : lw_okq (⟨"PulledCrystalModel", "isNeck", "(I)Z"⟩, 49) := ⟨⟨by decide +kernel, by decide +kernel⟩, List.mem_of_getElem? (i := 1233) (by decide +kernel), List.mem_of_getElem? (i := 1655) (by decide +kernel), List.mem_of_getElem? (i := 1656) (by decide +kernel)⟩
theorem lw_p77 : lw_okq (⟨"PulledCrystalModel", "kind", "(I)I"⟩, 49) := ⟨⟨by decide +kernel, by decide +kernel⟩, List.mem_of_getElem? (i := 1233) (by decide +kernel), List.mem_of_getElem? (i := 1668) (by decide +kernel), List.mem_of_getElem? (i := 1669) (by decide +kernel)⟩
theorem lw_p78 : lw_okq (⟨"PulledCrystalModel", "isBody", "(I)Z"⟩, 49) := ⟨⟨by decide +kernel, by decide +kernel⟩, List.mem_of_getElem? (i := 1233) (by decide +kernel), List.mem_of_getElem? (i := 1672) (by decide +kernel), List.mem_of_getElem? (i := 1673) (by decide +kernel)⟩
theorem lw_p79 : lw_okq (⟨"PulledCrystalModel", "isClean", "(I)Z"⟩, 49) := ⟨⟨by decide +kernel, by decide +kernel⟩, List.mem_of_getElem? (i := 1233) (by decide +kernel), List.mem_of_getElem? (i := 1676) (by decide +kernel), List.mem_of_getElem? (i := 1677) (by decide +kernel)⟩
def lw_privs_5 : List (MethodName × Nat) := [(⟨"PulledCrystalModel", "words", "(I)V"⟩, 49), (⟨"PulledCrystalModel", "wideAt", "(I)I"⟩, 49), (⟨"PulledCrystalModel", "rowOf", "(II)I"⟩, 49), (⟨"PulledCrystalModel", "minded", "(III)I"⟩, 49), (⟨"PulledCrystalModel", "holding", "(II)I"⟩, 49), (⟨"PulledCrystalModel", "reckons", "(III)J"⟩, 49), (⟨"PulledCrystalModel", "push", "(J)V"⟩, 49), (⟨"PulledCrystalModel", "pop", "()J"⟩, 49), (⟨"PulledCrystalModel", "widens", "(II)V"⟩, 49), (⟨"PulledCrystalModel", "isRow", "(I)Z"⟩, 49), (⟨"PulledCrystalModel", "melts", "(I)V"⟩, 49), (⟨"PulledCrystalModel", "flawsBehind", "(I)I"⟩, 49), (⟨"PulledCrystalModel", "isNeck", "(I)Z"⟩, 49), (⟨"PulledCrystalModel", "kind", "(I)I"⟩, 49), (⟨"PulledCrystalModel", "isBody", "(I)Z"⟩, 49), (⟨"PulledCrystalModel", "isClean", "(I)Z"⟩, 49)]
theorem lw_r5 : ∀ q ∈ lw_privs_5, lw_okq q := List.forall_mem_cons.mpr ⟨lw_p64, List.forall_mem_cons.mpr ⟨lw_p65, List.forall_mem_cons.mpr ⟨lw_p66, List.forall_mem_cons.mpr ⟨lw_p67, List.forall_mem_cons.mpr ⟨lw_p68, List.forall_mem_cons.mpr ⟨lw_p69, List.forall_mem_cons.mpr ⟨lw_p70, List.forall_mem_cons.mpr ⟨lw_p71, List.forall_mem_cons.mpr ⟨lw_p72, List.forall_mem_cons.mpr ⟨lw_p73, List.forall_mem_cons.mpr ⟨lw_p74, List.forall_mem_cons.mpr ⟨lw_p75, List.forall_mem_cons.mpr ⟨lw_p76, List.forall_mem_cons.mpr ⟨lw_p77, List.forall_mem_cons.mpr ⟨lw_p78, List.forall_mem_cons.mpr ⟨lw_p79, fun _ h => absurd h List.not_mem_nil⟩⟩⟩⟩⟩⟩⟩⟩⟩⟩⟩⟩⟩⟩⟩⟩
theorem lw_p80 : lw_okq (⟨"PulledCrystalModel", "firstFault", "()I"⟩, 49) := ⟨⟨by decide +kernel, by decide +kernel⟩, List.mem_of_getElem? (i := 1233) (by decide +kernel), List.mem_of_getElem? (i := 1680) (by decide +kernel), List.mem_of_getElem? (i := 1681) (by decide +kernel)⟩
theorem lw_p81 : lw_okq (⟨"PulledCrystalModel", "partsOf", "(JI)J"⟩, 49) := ⟨⟨by decide +kernel, by decide +kernel⟩, List.mem_of_getElem? (i := 1233) (by decide +kernel), List.mem_of_getElem? (i := 1693) (by decide +kernel), List.mem_of_getElem? (i := 1694) (by decide +kernel)⟩
theorem lw_p82 : lw_okq (⟨"PulledCrystalModel", "cuts", "()I"⟩, 49) := ⟨⟨by decide +kernel, by decide +kernel⟩, List.mem_of_getElem? (i := 1233) (by decide +kernel), List.mem_of_getElem? (i := 1707) (by decide +kernel), List.mem_of_getElem? (i := 1708) (by decide +kernel)⟩
theorem lw_p83 : lw_okq (⟨"PulledCrystalModel", "isWanted", "(II)Z"⟩, 49) := ⟨⟨by decide +kernel, by decide +kernel⟩, List.mem_of_getElem? (i := 1233) (by decide +kernel), List.mem_of_getElem? (i := 1711) (by decide +kernel), List.mem_of_getElem? (i := 1712) (by decide +kernel)⟩
theorem lw_p84 : lw_okq (⟨"PulledCrystalModel", "pieceOf", "(IIII)I"⟩, 49) := ⟨⟨by decide +kernel, by decide +kernel⟩, List.mem_of_getElem? (i := 1233) (by decide +kernel), List.mem_of_getElem? (i := 1723) (by decide +kernel), List.mem_of_getElem? (i := 1724) (by decide +kernel)⟩
theorem lw_p85 : lw_okq (⟨"PulledCrystalModel", "isAwry", "(II)Z"⟩, 49) := ⟨⟨by decide +kernel, by decide +kernel⟩, List.mem_of_getElem? (i := 1233) (by decide +kernel), List.mem_of_getElem? (i := 1745) (by decide +kernel), List.mem_of_getElem? (i := 1746) (by decide +kernel)⟩
theorem lw_p86 : lw_okq (⟨"PulledCrystalModel", "looks", "(II)V"⟩, 49) := ⟨⟨by decide +kernel, by decide +kernel⟩, List.mem_of_getElem? (i := 1233) (by decide +kernel), List.mem_of_getElem? (i := 1758) (by decide +kernel), List.mem_of_getElem? (i := 1759) (by decide +kernel)⟩
theorem lw_p87 : lw_okq (⟨"PulledCrystalModel", "keeps", "(I)V"⟩, 49) := ⟨⟨by decide +kernel, by decide +kernel⟩, List.mem_of_getElem? (i := 1233) (by decide +kernel), List.mem_of_getElem? (i := 1767) (by decide +kernel), List.mem_of_getElem? (i := 1768) (by decide +kernel)⟩
theorem lw_p88 : lw_okq (⟨"PulledCrystalModel", "returns", "(I)V"⟩, 49) := ⟨⟨by decide +kernel, by decide +kernel⟩, List.mem_of_getElem? (i := 1233) (by decide +kernel), List.mem_of_getElem? (i := 1775) (by decide +kernel), List.mem_of_getElem? (i := 1776) (by decide +kernel)⟩
theorem lw_p89 : lw_okq (⟨"PulledCrystalModel", "tries", "(III)V"⟩, 49) := ⟨⟨by decide +kernel, by decide +kernel⟩, List.mem_of_getElem? (i := 1233) (by decide +kernel), List.mem_of_getElem? (i := 1785) (by decide +kernel), List.mem_of_getElem? (i := 1786) (by decide +kernel)⟩
theorem lw_p90 : lw_okq (⟨"PulledCrystalModel", "endsWell", "(IIII)Z"⟩, 49) := ⟨⟨by decide +kernel, by decide +kernel⟩, List.mem_of_getElem? (i := 1233) (by decide +kernel), List.mem_of_getElem? (i := 1797) (by decide +kernel), List.mem_of_getElem? (i := 1798) (by decide +kernel)⟩
theorem lw_p91 : lw_okq (⟨"PulledCrystalModel", "fitsAll", "(II)Z"⟩, 49) := ⟨⟨by decide +kernel, by decide +kernel⟩, List.mem_of_getElem? (i := 1233) (by decide +kernel), List.mem_of_getElem? (i := 1809) (by decide +kernel), List.mem_of_getElem? (i := 1810) (by decide +kernel)⟩
theorem lw_p92 : lw_okq (⟨"PulledCrystalModel", "fits", "(IIJ)Z"⟩, 49) := ⟨⟨by decide +kernel, by decide +kernel⟩, List.mem_of_getElem? (i := 1233) (by decide +kernel), List.mem_of_getElem? (i := 1813) (by decide +kernel), List.mem_of_getElem? (i := 1814) (by decide +kernel)⟩
theorem lw_p93 : lw_okq (⟨"PulledCrystalModel", "coinsOf", "(II)I"⟩, 49) := ⟨⟨by decide +kernel, by decide +kernel⟩, List.mem_of_getElem? (i := 1233) (by decide +kernel), List.mem_of_getElem? (i := 1821) (by decide +kernel), List.mem_of_getElem? (i := 1822) (by decide +kernel)⟩
def lw_privs_6 : List (MethodName × Nat) := [(⟨"PulledCrystalModel", "firstFault", "()I"⟩, 49), (⟨"PulledCrystalModel", "partsOf", "(JI)J"⟩, 49), (⟨"PulledCrystalModel", "cuts", "()I"⟩, 49), (⟨"PulledCrystalModel", "isWanted", "(II)Z"⟩, 49), (⟨"PulledCrystalModel", "pieceOf", "(IIII)I"⟩, 49), (⟨"PulledCrystalModel", "isAwry", "(II)Z"⟩, 49), (⟨"PulledCrystalModel", "looks", "(II)V"⟩, 49), (⟨"PulledCrystalModel", "keeps", "(I)V"⟩, 49), (⟨"PulledCrystalModel", "returns", "(I)V"⟩, 49), (⟨"PulledCrystalModel", "tries", "(III)V"⟩, 49), (⟨"PulledCrystalModel", "endsWell", "(IIII)Z"⟩, 49), (⟨"PulledCrystalModel", "fitsAll", "(II)Z"⟩, 49), (⟨"PulledCrystalModel", "fits", "(IIJ)Z"⟩, 49), (⟨"PulledCrystalModel", "coinsOf", "(II)I"⟩, 49)]
theorem lw_r6 : ∀ q ∈ lw_privs_6, lw_okq q := List.forall_mem_cons.mpr ⟨lw_p80, List.forall_mem_cons.mpr ⟨lw_p81, List.forall_mem_cons.mpr ⟨lw_p82, List.forall_mem_cons.mpr ⟨lw_p83, List.forall_mem_cons.mpr ⟨lw_p84, List.forall_mem_cons.mpr ⟨lw_p85, List.forall_mem_cons.mpr ⟨lw_p86, List.forall_mem_cons.mpr ⟨lw_p87, List.forall_mem_cons.mpr ⟨lw_p88, List.forall_mem_cons.mpr ⟨lw_p89, List.forall_mem_cons.mpr ⟨lw_p90, List.forall_mem_cons.mpr ⟨lw_p91, List.forall_mem_cons.mpr ⟨lw_p92, List.forall_mem_cons.mpr ⟨lw_p93, fun _ h => absurd h List.not_mem_nil⟩⟩⟩⟩⟩⟩⟩⟩⟩⟩⟩⟩⟩⟩
def lw_privs : List (MethodName × Nat) := lw_privs_1 ++ (lw_privs_2 ++ (lw_privs_3 ++ (lw_privs_4 ++ (lw_privs_5 ++ (lw_privs_6)))))
def lw_tbl : List Cond := k2_sels lw_privs ++ tables_1
theorem lw_privs_ok : ∀ q ∈ lw_privs, lw_okq q := by
  show ∀ q ∈ lw_privs_1 ++ (lw_privs_2 ++ (lw_privs_3 ++ (lw_privs_4 ++ (lw_privs_5 ++ (lw_privs_6))))), lw_okq q
  exact List.forall_mem_append.mpr ⟨lw_r1, List.forall_mem_append.mpr ⟨lw_r2, List.forall_mem_append.mpr ⟨lw_r3, List.forall_mem_append.mpr ⟨lw_r4, List.forall_mem_append.mpr ⟨lw_r5, lw_r6⟩⟩⟩⟩⟩
-- ===== end of PART A; then your names; then what follows =====
def RX0 : String := "PulledCrystal$Cutter"
def TX0 : u_T := fun k => match k with
  | 0 => ("PulledCrystal$Cutter", "most", "[I", true)
  | 1 => ("PulledCrystal$Cutter", "taken", "[I", true)
  | 2 => ("PulledCrystal$Cutter", "takers", "[I", true)
  | 3 => ("PulledCrystal$Cutter", "lengths", "[I", true)
  | 4 => ("PulledCrystal$Cutter", "runEnds", "[I", true)
  | _ => ("PulledCrystal$Cutter", "rows", "I", false)
def tyX0 : Nat → FieldType := fun k => match k with
  | 0 => .array .int
  | 1 => .array .int
  | 2 => .array .int
  | 3 => .array .int
  | 4 => .array .int
  | _ => .int
abbrev wsX00 : List Cond := u_ws RX0 TX0 6
theorem nmX0 : ∀ a, a < 6 → ∀ b, b < 6 → a ≠ b → (TX0 a).2.1 ≠ (TX0 b).2.1 := by decide +kernel
theorem tyX0_ok : ∀ k, k < 6 → parseFieldDescriptor (TX0 k).2.2.1 = some (tyX0 k) := by decide +kernel
abbrev cX0_init : ByteArray := prog_2_method_1_code
def yX0_init : MethodName := ⟨RX0, "<init>", "()V"⟩
abbrev cX0_lay : ByteArray := prog_2_method_2_code
def yX0_lay : MethodName := ⟨RX0, "lay", "(LPulledCrystal$Pot;I[LPulledCrystal$Want;I)V"⟩
abbrev cX0_offerPieces : ByteArray := prog_2_method_3_code
def yX0_offerPieces : MethodName := ⟨RX0, "offerPieces", "(IILPulledCrystal$Want;)V"⟩
abbrev cX0_offer : ByteArray := prog_2_method_4_code
def yX0_offer : MethodName := ⟨RX0, "offer", "(IIII)V"⟩
abbrev cX0_coins : ByteArray := prog_2_method_5_code
def yX0_coins : MethodName := ⟨RX0, "coins", "()I"⟩
abbrev cX0_pieces : ByteArray := prog_2_method_6_code
def yX0_pieces : MethodName := ⟨RX0, "pieces", "()I"⟩
abbrev cX0_firstRowOfPiece : ByteArray := prog_2_method_7_code
def yX0_firstRowOfPiece : MethodName := ⟨RX0, "firstRowOfPiece", "(I)I"⟩
abbrev cX0_wantOfRow : ByteArray := prog_2_method_8_code
def yX0_wantOfRow : MethodName := ⟨RX0, "wantOfRow", "(I)I"⟩
abbrev cX0_rowsOfPieceAt : ByteArray := prog_2_method_9_code
def yX0_rowsOfPieceAt : MethodName := ⟨RX0, "rowsOfPieceAt", "(I)I"⟩
abbrev cX0_coinsOfPieceAt : ByteArray := prog_2_method_10_code
def yX0_coinsOfPieceAt : MethodName := ⟨RX0, "coinsOfPieceAt", "(I)I"⟩
def RX1 : String := "PulledCrystal$Desk"
def TX1 : u_T := fun k => match k with
  | 0 => ("PulledCrystal$Desk", "words", "[J", true)
  | 1 => ("PulledCrystal$Desk", "stack", "[J", true)
  | _ => ("PulledCrystal$Desk", "top", "I", false)
def tyX1 : Nat → FieldType := fun k => match k with
  | 0 => .array .long
  | 1 => .array .long
  | _ => .int
abbrev wsX10 : List Cond := u_ws RX1 TX1 3
theorem nmX1 : ∀ a, a < 3 → ∀ b, b < 3 → a ≠ b → (TX1 a).2.1 ≠ (TX1 b).2.1 := by decide +kernel
theorem tyX1_ok : ∀ k, k < 3 → parseFieldDescriptor (TX1 k).2.2.1 = some (tyX1 k) := by decide +kernel
abbrev cX1_init : ByteArray := prog_3_method_1_code
def yX1_init : MethodName := ⟨RX1, "<init>", "()V"⟩
abbrev cX1_tell : ByteArray := prog_3_method_2_code
def yX1_tell : MethodName := ⟨RX1, "tell", "(IJ)V"⟩
abbrev cX1_first : ByteArray := prog_3_method_3_code
def yX1_first : MethodName := ⟨RX1, "first", "(LPulledCrystal$Law;IJ)J"⟩
abbrev cX1_reckon : ByteArray := prog_3_method_4_code
def yX1_reckon : MethodName := ⟨RX1, "reckon", "(LPulledCrystal$Law;II)J"⟩
abbrev cX1_reckonSum : ByteArray := prog_3_method_5_code
def yX1_reckonSum : MethodName := ⟨RX1, "reckonSum", "(IJJ)J"⟩
abbrev cX1_decide : ByteArray := prog_3_method_6_code
def yX1_decide : MethodName := ⟨RX1, "decide", "(IJJ)Z"⟩
abbrev cX1_push : ByteArray := prog_3_method_7_code
def yX1_push : MethodName := ⟨RX1, "push", "(J)V"⟩
abbrev cX1_pop : ByteArray := prog_3_method_8_code
def yX1_pop : MethodName := ⟨RX1, "pop", "()J"⟩
def RX2 : String := "PulledCrystal$Image"
def TX2 : u_T := fun k => match k with
  | 0 => ("PulledCrystal$Image", "pot", "LPulledCrystal$Pot;", true)
  | 1 => ("PulledCrystal$Image", "put", "[I", true)
  | 2 => ("PulledCrystal$Image", "share", "[I", true)
  | 3 => ("PulledCrystal$Image", "thin", "I", false)
  | _ => ("PulledCrystal$Image", "made", "Z", false)
def tyX2 : Nat → FieldType := fun k => match k with
  | 0 => .object "PulledCrystal$Pot"
  | 1 => .array .int
  | 2 => .array .int
  | 3 => .int
  | _ => .boolean
abbrev wsX20 : List Cond := u_ws RX2 TX2 5
theorem nmX2 : ∀ a, a < 5 → ∀ b, b < 5 → a ≠ b → (TX2 a).2.1 ≠ (TX2 b).2.1 := by decide +kernel
theorem tyX2_ok : ∀ k, k < 5 → parseFieldDescriptor (TX2 k).2.2.1 = some (tyX2 k) := by decide +kernel
abbrev cX2_init : ByteArray := prog_4_method_1_code
def yX2_init : MethodName := ⟨RX2, "<init>", "()V"⟩
abbrev cX2_take : ByteArray := prog_4_method_2_code
def yX2_take : MethodName := ⟨RX2, "take", "(LPulledCrystal$Pot;I[I[I)V"⟩
abbrev cX2_giveBack : ByteArray := prog_4_method_3_code
def yX2_giveBack : MethodName := ⟨RX2, "giveBack", "(LPulledCrystal$Pot;[I[I)V"⟩
abbrev cX2_isMade : ByteArray := prog_4_method_4_code
def yX2_isMade : MethodName := ⟨RX2, "isMade", "()Z"⟩
abbrev cX2_thinThen : ByteArray := prog_4_method_5_code
def yX2_thinThen : MethodName := ⟨RX2, "thinThen", "()I"⟩
abbrev cX2_copyStuffs : ByteArray := prog_4_method_6_code
def yX2_copyStuffs : MethodName := ⟨RX2, "copyStuffs", "([I[I)V"⟩
def RX3 : String := "PulledCrystal$Law"
def TX3 : u_T := fun k => match k with
  | 0 => ("PulledCrystal$Law", "code", "[I", true)
  | 1 => ("PulledCrystal$Law", "size", "I", false)
  | 2 => ("PulledCrystal$Law", "kinds", "[I", true)
  | 3 => ("PulledCrystal$Law", "sums", "[I", true)
  | 4 => ("PulledCrystal$Law", "tests", "[I", true)
  | 5 => ("PulledCrystal$Law", "ends", "[I", true)
  | 6 => ("PulledCrystal$Law", "rules", "I", false)
  | 7 => ("PulledCrystal$Law", "swirl", "I", false)
  | 8 => ("PulledCrystal$Law", "late", "I", false)
  | _ => ("PulledCrystal$Law", "gives", "I", false)
def tyX3 : Nat → FieldType := fun k => match k with
  | 0 => .array .int
  | 1 => .int
  | 2 => .array .int
  | 3 => .array .int
  | 4 => .array .int
  | 5 => .array .int
  | 6 => .int
  | 7 => .int
  | 8 => .int
  | _ => .int
abbrev wsX30 : List Cond := u_ws RX3 TX3 10
theorem nmX3 : ∀ a, a < 10 → ∀ b, b < 10 → a ≠ b → (TX3 a).2.1 ≠ (TX3 b).2.1 := by decide +kernel
theorem tyX3_ok : ∀ k, k < 10 → parseFieldDescriptor (TX3 k).2.2.1 = some (tyX3 k) := by decide +kernel
abbrev cX3_init : ByteArray := prog_5_method_1_code
def yX3_init : MethodName := ⟨RX3, "<init>", "()V"⟩
abbrev cX3_clear : ByteArray := prog_5_method_2_code
def yX3_clear : MethodName := ⟨RX3, "clear", "()V"⟩
abbrev cX3_becomeLike : ByteArray := prog_5_method_3_code
def yX3_becomeLike : MethodName := ⟨RX3, "becomeLike", "(LPulledCrystal$Law;)V"⟩
abbrev cX3_write : ByteArray := prog_5_method_4_code
def yX3_write : MethodName := ⟨RX3, "write", "(I)V"⟩
abbrev cX3_addRule : ByteArray := prog_5_method_5_code
def yX3_addRule : MethodName := ⟨RX3, "addRule", "(III)V"⟩
abbrev cX3_setNumber : ByteArray := prog_5_method_6_code
def yX3_setNumber : MethodName := ⟨RX3, "setNumber", "(II)V"⟩
abbrev cX3_hasNumber : ByteArray := prog_5_method_7_code
def yX3_hasNumber : MethodName := ⟨RX3, "hasNumber", "(I)Z"⟩
abbrev cX3_size : ByteArray := prog_5_method_8_code
def yX3_size : MethodName := ⟨RX3, "size", "()I"⟩
abbrev cX3_rules : ByteArray := prog_5_method_9_code
def yX3_rules : MethodName := ⟨RX3, "rules", "()I"⟩
abbrev cX3_swirl : ByteArray := prog_5_method_10_code
def yX3_swirl : MethodName := ⟨RX3, "swirl", "()I"⟩
abbrev cX3_late : ByteArray := prog_5_method_11_code
def yX3_late : MethodName := ⟨RX3, "late", "()I"⟩
abbrev cX3_given : ByteArray := prog_5_method_12_code
def yX3_given : MethodName := ⟨RX3, "given", "(I)I"⟩
abbrev cX3_codeAt : ByteArray := prog_5_method_13_code
def yX3_codeAt : MethodName := ⟨RX3, "codeAt", "(I)I"⟩
abbrev cX3_kindOf : ByteArray := prog_5_method_14_code
def yX3_kindOf : MethodName := ⟨RX3, "kindOf", "(I)I"⟩
abbrev cX3_sumOf : ByteArray := prog_5_method_15_code
def yX3_sumOf : MethodName := ⟨RX3, "sumOf", "(I)I"⟩
abbrev cX3_testOf : ByteArray := prog_5_method_16_code
def yX3_testOf : MethodName := ⟨RX3, "testOf", "(I)I"⟩
abbrev cX3_endOf : ByteArray := prog_5_method_17_code
def yX3_endOf : MethodName := ⟨RX3, "endOf", "(I)I"⟩
def RX4 : String := "PulledCrystal$Laws"
def TX4 : u_T := fun k => match k with
  | 0 => ("PulledCrystal$Laws", "laws", "[LPulledCrystal$Law;", true)
  | _ => ("PulledCrystal$Laws", "size", "I", false)
def tyX4 : Nat → FieldType := fun k => match k with
  | 0 => .array (.object "PulledCrystal$Law")
  | _ => .int
abbrev wsX40 : List Cond := u_ws RX4 TX4 2
theorem nmX4 : ∀ a, a < 2 → ∀ b, b < 2 → a ≠ b → (TX4 a).2.1 ≠ (TX4 b).2.1 := by decide +kernel
theorem tyX4_ok : ∀ k, k < 2 → parseFieldDescriptor (TX4 k).2.2.1 = some (tyX4 k) := by decide +kernel
abbrev cX4_init : ByteArray := prog_6_method_1_code
def yX4_init : MethodName := ⟨RX4, "<init>", "(I)V"⟩
abbrev cX4_size : ByteArray := prog_6_method_2_code
def yX4_size : MethodName := ⟨RX4, "size", "()I"⟩
abbrev cX4_isFull : ByteArray := prog_6_method_3_code
def yX4_isFull : MethodName := ⟨RX4, "isFull", "()Z"⟩
abbrev cX4_add : ByteArray := prog_6_method_4_code
def yX4_add : MethodName := ⟨RX4, "add", "(LPulledCrystal$Law;)I"⟩
abbrev cX4_find : ByteArray := prog_6_method_5_code
def yX4_find : MethodName := ⟨RX4, "find", "(I)LPulledCrystal$Law;"⟩
def RX5 : String := "PulledCrystal$Pot"
def TX5 : u_T := fun k => match k with
  | 0 => ("PulledCrystal$Pot", "start", "LPulledCrystal$Start;", true)
  | 1 => ("PulledCrystal$Pot", "furnaceLaw", "LPulledCrystal$Law;", false)
  | 2 => ("PulledCrystal$Pot", "minderLaw", "LPulledCrystal$Law;", false)
  | 3 => ("PulledCrystal$Pot", "how", "I", false)
  | 4 => ("PulledCrystal$Pot", "seed", "J", false)
  | 5 => ("PulledCrystal$Pot", "left", "I", false)
  | 6 => ("PulledCrystal$Pot", "wide", "I", false)
  | 7 => ("PulledCrystal$Pot", "heat", "I", false)
  | 8 => ("PulledCrystal$Pot", "pull", "I", false)
  | 9 => ("PulledCrystal$Pot", "length", "I", false)
  | 10 => ("PulledCrystal$Pot", "minutes", "I", false)
  | 11 => ("PulledCrystal$Pot", "rows", "I", false)
  | 12 => ("PulledCrystal$Pot", "wides", "[I", true)
  | 13 => ("PulledCrystal$Pot", "heats", "[I", true)
  | 14 => ("PulledCrystal$Pot", "pulls", "[I", true)
  | 15 => ("PulledCrystal$Pot", "growns", "[I", true)
  | 16 => ("PulledCrystal$Pot", "faulty", "[Z", true)
  | 17 => ("PulledCrystal$Pot", "went", "[J", true)
  | _ => ("PulledCrystal$Pot", "melt", "[J", true)
def tyX5 : Nat → FieldType := fun k => match k with
  | 0 => .object "PulledCrystal$Start"
  | 1 => .object "PulledCrystal$Law"
  | 2 => .object "PulledCrystal$Law"
  | 3 => .int
  | 4 => .long
  | 5 => .int
  | 6 => .int
  | 7 => .int
  | 8 => .int
  | 9 => .int
  | 10 => .int
  | 11 => .int
  | 12 => .array .int
  | 13 => .array .int
  | 14 => .array .int
  | 15 => .array .int
  | 16 => .array .boolean
  | 17 => .array .long
  | _ => .array .long
abbrev wsX50 : List Cond := u_ws RX5 TX5 19
theorem nmX5 : ∀ a, a < 19 → ∀ b, b < 19 → a ≠ b → (TX5 a).2.1 ≠ (TX5 b).2.1 := by decide +kernel
theorem tyX5_ok : ∀ k, k < 19 → parseFieldDescriptor (TX5 k).2.2.1 = some (tyX5 k) := by decide +kernel
abbrev cX5_init : ByteArray := prog_7_method_1_code
def yX5_init : MethodName := ⟨RX5, "<init>", "()V"⟩
abbrev cX5_start : ByteArray := prog_7_method_2_code
def yX5_start : MethodName := ⟨RX5, "start", "()LPulledCrystal$Start;"⟩
abbrev cX5_open : ByteArray := prog_7_method_3_code
def yX5_open : MethodName := ⟨RX5, "open", "(LPulledCrystal$Law;LPulledCrystal$Law;I)V"⟩
abbrev cX5_becomeLike : ByteArray := prog_7_method_4_code
def yX5_becomeLike : MethodName := ⟨RX5, "becomeLike", "(LPulledCrystal$Pot;)V"⟩
abbrev cX5_follow : ByteArray := prog_7_method_5_code
def yX5_follow : MethodName := ⟨RX5, "follow", "(LPulledCrystal$Law;)V"⟩
abbrev cX5_besideWant : ByteArray := prog_7_method_6_code
def yX5_besideWant : MethodName := ⟨RX5, "besideWant", "()I"⟩
abbrev cX5_shiftWide : ByteArray := prog_7_method_7_code
def yX5_shiftWide : MethodName := ⟨RX5, "shiftWide", "(I)V"⟩
abbrev cX5_goOn : ByteArray := prog_7_method_8_code
def yX5_goOn : MethodName := ⟨RX5, "goOn", "(ILPulledCrystal$Desk;)I"⟩
abbrev cX5_passMinute : ByteArray := prog_7_method_9_code
def yX5_passMinute : MethodName := ⟨RX5, "passMinute", "(LPulledCrystal$Desk;)V"⟩
abbrev cX5_tellWords : ByteArray := prog_7_method_10_code
def yX5_tellWords : MethodName := ⟨RX5, "tellWords", "(LPulledCrystal$Desk;)V"⟩
abbrev cX5_wideSeen : ByteArray := prog_7_method_11_code
def yX5_wideSeen : MethodName := ⟨RX5, "wideSeen", "(I)I"⟩
abbrev cX5_swirled : ByteArray := prog_7_method_12_code
def yX5_swirled : MethodName := ⟨RX5, "swirled", "()J"⟩
abbrev cX5_addRow : ByteArray := prog_7_method_13_code
def yX5_addRow : MethodName := ⟨RX5, "addRow", "()V"⟩
abbrev cX5_howBehindMinute : ByteArray := prog_7_method_14_code
def yX5_howBehindMinute : MethodName := ⟨RX5, "howBehindMinute", "()I"⟩
abbrev cX5_meltBack : ByteArray := prog_7_method_15_code
def yX5_meltBack : MethodName := ⟨RX5, "meltBack", "(I)I"⟩
abbrev cX5_tellFault : ByteArray := prog_7_method_16_code
def yX5_tellFault : MethodName := ⟨RX5, "tellFault", "(I)Z"⟩
abbrev cX5_firstFaulted : ByteArray := prog_7_method_17_code
def yX5_firstFaulted : MethodName := ⟨RX5, "firstFaulted", "()I"⟩
abbrev cX5_firstClean : ByteArray := prog_7_method_18_code
def yX5_firstClean : MethodName := ⟨RX5, "firstClean", "(I)I"⟩
abbrev cX5_faultsLeft : ByteArray := prog_7_method_19_code
def yX5_faultsLeft : MethodName := ⟨RX5, "faultsLeft", "(I)I"⟩
abbrev cX5_tearsAt : ByteArray := prog_7_method_20_code
def yX5_tearsAt : MethodName := ⟨RX5, "tearsAt", "(I)I"⟩
abbrev cX5_thinnestOfNeck : ByteArray := prog_7_method_21_code
def yX5_thinnestOfNeck : MethodName := ⟨RX5, "thinnestOfNeck", "(I)I"⟩
abbrev cX5_kindOf : ByteArray := prog_7_method_22_code
def yX5_kindOf : MethodName := ⟨RX5, "kindOf", "(II)I"⟩
abbrev cX5_isBody : ByteArray := prog_7_method_23_code
def yX5_isBody : MethodName := ⟨RX5, "isBody", "(II)Z"⟩
abbrev cX5_wanderOver : ByteArray := prog_7_method_24_code
def yX5_wanderOver : MethodName := ⟨RX5, "wanderOver", "(II)I"⟩
abbrev cX5_huntsOver : ByteArray := prog_7_method_25_code
def yX5_huntsOver : MethodName := ⟨RX5, "huntsOver", "(II)I"⟩
abbrev cX5_replay : ByteArray := prog_7_method_26_code
def yX5_replay : MethodName := ⟨RX5, "replay", "(IJI[J)V"⟩
abbrev cX5_hasRow : ByteArray := prog_7_method_27_code
def yX5_hasRow : MethodName := ⟨RX5, "hasRow", "(I)Z"⟩
abbrev cX5_how : ByteArray := prog_7_method_28_code
def yX5_how : MethodName := ⟨RX5, "how", "()I"⟩
abbrev cX5_rows : ByteArray := prog_7_method_29_code
def yX5_rows : MethodName := ⟨RX5, "rows", "()I"⟩
abbrev cX5_left : ByteArray := prog_7_method_30_code
def yX5_left : MethodName := ⟨RX5, "left", "()I"⟩
abbrev cX5_wide : ByteArray := prog_7_method_31_code
def yX5_wide : MethodName := ⟨RX5, "wide", "()I"⟩
abbrev cX5_heat : ByteArray := prog_7_method_32_code
def yX5_heat : MethodName := ⟨RX5, "heat", "()I"⟩
abbrev cX5_pull : ByteArray := prog_7_method_33_code
def yX5_pull : MethodName := ⟨RX5, "pull", "()I"⟩
abbrev cX5_length : ByteArray := prog_7_method_34_code
def yX5_length : MethodName := ⟨RX5, "length", "()I"⟩
abbrev cX5_minutes : ByteArray := prog_7_method_35_code
def yX5_minutes : MethodName := ⟨RX5, "minutes", "()I"⟩
abbrev cX5_wideOf : ByteArray := prog_7_method_36_code
def yX5_wideOf : MethodName := ⟨RX5, "wideOf", "(I)I"⟩
abbrev cX5_heatOf : ByteArray := prog_7_method_37_code
def yX5_heatOf : MethodName := ⟨RX5, "heatOf", "(I)I"⟩
abbrev cX5_pullOf : ByteArray := prog_7_method_38_code
def yX5_pullOf : MethodName := ⟨RX5, "pullOf", "(I)I"⟩
abbrev cX5_grownOf : ByteArray := prog_7_method_39_code
def yX5_grownOf : MethodName := ⟨RX5, "grownOf", "(I)I"⟩
abbrev cX5_meltOf : ByteArray := prog_7_method_40_code
def yX5_meltOf : MethodName := ⟨RX5, "meltOf", "(I)J"⟩
abbrev cX5_wentInto : ByteArray := prog_7_method_41_code
def yX5_wentInto : MethodName := ⟨RX5, "wentInto", "(II)J"⟩
abbrev cX5_partsOf : ByteArray := prog_7_method_42_code
def yX5_partsOf : MethodName := ⟨RX5, "partsOf", "(II)J"⟩
def RX6 : String := "PulledCrystal$Reader"
def TX6 : u_T := fun k => match k with
  | 0 => ("PulledCrystal$Reader", "tape", "LPulledCrystal$Tape;", true)
  | 1 => ("PulledCrystal$Reader", "draft", "LPulledCrystal$Law;", true)
  | 2 => ("PulledCrystal$Reader", "ofFurnace", "Z", false)
  | 3 => ("PulledCrystal$Reader", "at", "I", false)
  | 4 => ("PulledCrystal$Reader", "told", "I", false)
  | _ => ("PulledCrystal$Reader", "found", "I", false)
def tyX6 : Nat → FieldType := fun k => match k with
  | 0 => .object "PulledCrystal$Tape"
  | 1 => .object "PulledCrystal$Law"
  | 2 => .boolean
  | 3 => .int
  | 4 => .int
  | _ => .int
abbrev wsX60 : List Cond := u_ws RX6 TX6 6
theorem nmX6 : ∀ a, a < 6 → ∀ b, b < 6 → a ≠ b → (TX6 a).2.1 ≠ (TX6 b).2.1 := by decide +kernel
theorem tyX6_ok : ∀ k, k < 6 → parseFieldDescriptor (TX6 k).2.2.1 = some (tyX6 k) := by decide +kernel
abbrev cX6_init : ByteArray := prog_8_method_1_code
def yX6_init : MethodName := ⟨RX6, "<init>", "()V"⟩
abbrev cX6_tape : ByteArray := prog_8_method_2_code
def yX6_tape : MethodName := ⟨RX6, "tape", "()LPulledCrystal$Tape;"⟩
abbrev cX6_readInto : ByteArray := prog_8_method_3_code
def yX6_readInto : MethodName := ⟨RX6, "readInto", "(LPulledCrystal$Laws;Z)I"⟩
abbrev cX6_fail : ByteArray := prog_8_method_4_code
def yX6_fail : MethodName := ⟨RX6, "fail", "(II)V"⟩
abbrev cX6_readClause : ByteArray := prog_8_method_5_code
def yX6_readClause : MethodName := ⟨RX6, "readClause", "(I)V"⟩
abbrev cX6_clauseKind : ByteArray := prog_8_method_6_code
def yX6_clauseKind : MethodName := ⟨RX6, "clauseKind", "()I"⟩
abbrev cX6_readTest : ByteArray := prog_8_method_7_code
def yX6_readTest : MethodName := ⟨RX6, "readTest", "(I)V"⟩
abbrev cX6_readPart : ByteArray := prog_8_method_8_code
def yX6_readPart : MethodName := ⟨RX6, "readPart", "(I)V"⟩
abbrev cX6_readFact : ByteArray := prog_8_method_9_code
def yX6_readFact : MethodName := ⟨RX6, "readFact", "(I)V"⟩
abbrev cX6_opens : ByteArray := prog_8_method_10_code
def yX6_opens : MethodName := ⟨RX6, "opens", "(I)Z"⟩
abbrev cX6_readSign : ByteArray := prog_8_method_11_code
def yX6_readSign : MethodName := ⟨RX6, "readSign", "()I"⟩
abbrev cX6_readSum : ByteArray := prog_8_method_12_code
def yX6_readSum : MethodName := ⟨RX6, "readSum", "(I)V"⟩
abbrev cX6_readTerm : ByteArray := prog_8_method_13_code
def yX6_readTerm : MethodName := ⟨RX6, "readTerm", "(I)V"⟩
abbrev cX6_readValue : ByteArray := prog_8_method_14_code
def yX6_readValue : MethodName := ⟨RX6, "readValue", "(I)V"⟩
abbrev cX6_countTold : ByteArray := prog_8_method_15_code
def yX6_countTold : MethodName := ⟨RX6, "countTold", "(I)V"⟩
abbrev cX6_readNumber : ByteArray := prog_8_method_16_code
def yX6_readNumber : MethodName := ⟨RX6, "readNumber", "(I)I"⟩
abbrev cX6_wordNumber : ByteArray := prog_8_method_17_code
def yX6_wordNumber : MethodName := ⟨RX6, "wordNumber", "()I"⟩
abbrev cX6_nextByte : ByteArray := prog_8_method_18_code
def yX6_nextByte : MethodName := ⟨RX6, "nextByte", "()I"⟩
abbrev cX6_expect : ByteArray := prog_8_method_19_code
def yX6_expect : MethodName := ⟨RX6, "expect", "(I)V"⟩
abbrev cX6_takesWord : ByteArray := prog_8_method_20_code
def yX6_takesWord : MethodName := ⟨RX6, "takesWord", "(Ljava/lang/String;)Z"⟩
abbrev cX6_isWord : ByteArray := prog_8_method_21_code
def yX6_isWord : MethodName := ⟨RX6, "isWord", "(Ljava/lang/String;)Z"⟩
abbrev cX6_wordEnd : ByteArray := prog_8_method_22_code
def yX6_wordEnd : MethodName := ⟨RX6, "wordEnd", "()I"⟩
abbrev cX6_isLetter : ByteArray := prog_8_method_23_code
def yX6_isLetter : MethodName := ⟨RX6, "isLetter", "(I)Z"⟩
abbrev cX6_isDigit : ByteArray := prog_8_method_24_code
def yX6_isDigit : MethodName := ⟨RX6, "isDigit", "(I)Z"⟩
def RX7 : String := "PulledCrystal$Slices"
def TX7 : u_T := fun k => match k with
  | 0 => ("PulledCrystal$Slices", "sliceRows", "[I", true)
  | 1 => ("PulledCrystal$Slices", "stuffs", "[I", true)
  | 2 => ("PulledCrystal$Slices", "founds", "[I", true)
  | 3 => ("PulledCrystal$Slices", "gives", "[I", true)
  | 4 => ("PulledCrystal$Slices", "size", "I", false)
  | 5 => ("PulledCrystal$Slices", "lows", "[J", true)
  | 6 => ("PulledCrystal$Slices", "highs", "[J", true)
  | _ => ("PulledCrystal$Slices", "gathered", "I", false)
def tyX7 : Nat → FieldType := fun k => match k with
  | 0 => .array .int
  | 1 => .array .int
  | 2 => .array .int
  | 3 => .array .int
  | 4 => .int
  | 5 => .array .long
  | 6 => .array .long
  | _ => .int
abbrev wsX70 : List Cond := u_ws RX7 TX7 8
theorem nmX7 : ∀ a, a < 8 → ∀ b, b < 8 → a ≠ b → (TX7 a).2.1 ≠ (TX7 b).2.1 := by decide +kernel
theorem tyX7_ok : ∀ k, k < 8 → parseFieldDescriptor (TX7 k).2.2.1 = some (tyX7 k) := by decide +kernel
abbrev cX7_init : ByteArray := prog_9_method_1_code
def yX7_init : MethodName := ⟨RX7, "<init>", "()V"⟩
abbrev cX7_size : ByteArray := prog_9_method_2_code
def yX7_size : MethodName := ⟨RX7, "size", "()I"⟩
abbrev cX7_isFull : ByteArray := prog_9_method_3_code
def yX7_isFull : MethodName := ⟨RX7, "isFull", "()Z"⟩
abbrev cX7_add : ByteArray := prog_9_method_4_code
def yX7_add : MethodName := ⟨RX7, "add", "(IIII)V"⟩
abbrev cX7_gather : ByteArray := prog_9_method_5_code
def yX7_gather : MethodName := ⟨RX7, "gather", "(II)V"⟩
abbrev cX7_areAsFound : ByteArray := prog_9_method_6_code
def yX7_areAsFound : MethodName := ⟨RX7, "areAsFound", "([J)Z"⟩
def RX8 : String := "PulledCrystal$Start"
def TX8 : u_T := fun k => match k with
  | 0 => ("PulledCrystal$Start", "grams", "I", false)
  | 1 => ("PulledCrystal$Start", "want", "I", false)
  | 2 => ("PulledCrystal$Start", "heat", "I", false)
  | 3 => ("PulledCrystal$Start", "wide", "I", false)
  | 4 => ("PulledCrystal$Start", "life", "I", false)
  | 5 => ("PulledCrystal$Start", "faults", "I", false)
  | 6 => ("PulledCrystal$Start", "put", "[I", true)
  | _ => ("PulledCrystal$Start", "share", "[I", true)
def tyX8 : Nat → FieldType := fun k => match k with
  | 0 => .int
  | 1 => .int
  | 2 => .int
  | 3 => .int
  | 4 => .int
  | 5 => .int
  | 6 => .array .int
  | _ => .array .int
abbrev wsX80 : List Cond := u_ws RX8 TX8 8
theorem nmX8 : ∀ a, a < 8 → ∀ b, b < 8 → a ≠ b → (TX8 a).2.1 ≠ (TX8 b).2.1 := by decide +kernel
theorem tyX8_ok : ∀ k, k < 8 → parseFieldDescriptor (TX8 k).2.2.1 = some (tyX8 k) := by decide +kernel
abbrev cX8_init : ByteArray := prog_10_method_1_code
def yX8_init : MethodName := ⟨RX8, "<init>", "()V"⟩
abbrev cX8_tell : ByteArray := prog_10_method_2_code
def yX8_tell : MethodName := ⟨RX8, "tell", "(IIIIII)V"⟩
abbrev cX8_tellStuffs : ByteArray := prog_10_method_3_code
def yX8_tellStuffs : MethodName := ⟨RX8, "tellStuffs", "([I[I)V"⟩
abbrev cX8_becomeLike : ByteArray := prog_10_method_4_code
def yX8_becomeLike : MethodName := ⟨RX8, "becomeLike", "(LPulledCrystal$Start;)V"⟩
abbrev cX8_grams : ByteArray := prog_10_method_5_code
def yX8_grams : MethodName := ⟨RX8, "grams", "()I"⟩
abbrev cX8_wideWanted : ByteArray := prog_10_method_6_code
def yX8_wideWanted : MethodName := ⟨RX8, "wideWanted", "()I"⟩
abbrev cX8_heat : ByteArray := prog_10_method_7_code
def yX8_heat : MethodName := ⟨RX8, "heat", "()I"⟩
abbrev cX8_wide : ByteArray := prog_10_method_8_code
def yX8_wide : MethodName := ⟨RX8, "wide", "()I"⟩
abbrev cX8_life : ByteArray := prog_10_method_9_code
def yX8_life : MethodName := ⟨RX8, "life", "()I"⟩
abbrev cX8_faultsThen : ByteArray := prog_10_method_10_code
def yX8_faultsThen : MethodName := ⟨RX8, "faultsThen", "()I"⟩
abbrev cX8_putOf : ByteArray := prog_10_method_11_code
def yX8_putOf : MethodName := ⟨RX8, "putOf", "(I)I"⟩
abbrev cX8_shareOf : ByteArray := prog_10_method_12_code
def yX8_shareOf : MethodName := ⟨RX8, "shareOf", "(I)I"⟩
def RX9 : String := "PulledCrystal$Tape"
def TX9 : u_T := fun k => match k with
  | 0 => ("PulledCrystal$Tape", "bytes", "[I", true)
  | _ => ("PulledCrystal$Tape", "size", "I", false)
def tyX9 : Nat → FieldType := fun k => match k with
  | 0 => .array .int
  | _ => .int
abbrev wsX90 : List Cond := u_ws RX9 TX9 2
theorem nmX9 : ∀ a, a < 2 → ∀ b, b < 2 → a ≠ b → (TX9 a).2.1 ≠ (TX9 b).2.1 := by decide +kernel
theorem tyX9_ok : ∀ k, k < 2 → parseFieldDescriptor (TX9 k).2.2.1 = some (tyX9 k) := by decide +kernel
abbrev cX9_init : ByteArray := prog_11_method_1_code
def yX9_init : MethodName := ⟨RX9, "<init>", "()V"⟩
abbrev cX9_size : ByteArray := prog_11_method_2_code
def yX9_size : MethodName := ⟨RX9, "size", "()I"⟩
abbrev cX9_add : ByteArray := prog_11_method_3_code
def yX9_add : MethodName := ⟨RX9, "add", "(I)V"⟩
abbrev cX9_shorten : ByteArray := prog_11_method_4_code
def yX9_shorten : MethodName := ⟨RX9, "shorten", "(I)V"⟩
abbrev cX9_byteAt : ByteArray := prog_11_method_5_code
def yX9_byteAt : MethodName := ⟨RX9, "byteAt", "(I)I"⟩
def RX10 : String := "PulledCrystal$Want"
def TX10 : u_T := fun k => match k with
  | 0 => ("PulledCrystal$Want", "stuff", "I", false)
  | 1 => ("PulledCrystal$Want", "low", "I", false)
  | 2 => ("PulledCrystal$Want", "high", "I", false)
  | 3 => ("PulledCrystal$Want", "wide", "I", false)
  | 4 => ("PulledCrystal$Want", "length", "I", false)
  | _ => ("PulledCrystal$Want", "coins", "I", false)
def tyX10 : Nat → FieldType := fun k => match k with
  | 0 => .int
  | 1 => .int
  | 2 => .int
  | 3 => .int
  | 4 => .int
  | _ => .int
abbrev wsX100 : List Cond := u_ws RX10 TX10 6
theorem nmX10 : ∀ a, a < 6 → ∀ b, b < 6 → a ≠ b → (TX10 a).2.1 ≠ (TX10 b).2.1 := by decide +kernel
theorem tyX10_ok : ∀ k, k < 6 → parseFieldDescriptor (TX10 k).2.2.1 = some (tyX10 k) := by decide +kernel
abbrev cX10_init : ByteArray := prog_12_method_1_code
def yX10_init : MethodName := ⟨RX10, "<init>", "()V"⟩
abbrev cX10_tell : ByteArray := prog_12_method_2_code
def yX10_tell : MethodName := ⟨RX10, "tell", "(IIIIII)V"⟩
abbrev cX10_length : ByteArray := prog_12_method_3_code
def yX10_length : MethodName := ⟨RX10, "length", "()I"⟩
abbrev cX10_coins : ByteArray := prog_12_method_4_code
def yX10_coins : MethodName := ⟨RX10, "coins", "()I"⟩
abbrev cX10_reasonsAgainst : ByteArray := prog_12_method_5_code
def yX10_reasonsAgainst : MethodName := ⟨RX10, "reasonsAgainst", "(LPulledCrystal$Pot;III)I"⟩
def RX11 : String := "PulledCrystal"
def TX11 : u_T := fun k => match k with
  | 0 => ("PulledCrystal", "reader", "LPulledCrystal$Reader;", true)
  | 1 => ("PulledCrystal", "tape", "LPulledCrystal$Tape;", true)
  | 2 => ("PulledCrystal", "furnaces", "LPulledCrystal$Laws;", true)
  | 3 => ("PulledCrystal", "minders", "LPulledCrystal$Laws;", true)
  | 4 => ("PulledCrystal", "desk", "LPulledCrystal$Desk;", true)
  | 5 => ("PulledCrystal", "put", "[I", true)
  | 6 => ("PulledCrystal", "share", "[I", true)
  | 7 => ("PulledCrystal", "thin", "I", false)
  | 8 => ("PulledCrystal", "pot", "LPulledCrystal$Pot;", true)
  | 9 => ("PulledCrystal", "trial", "LPulledCrystal$Pot;", true)
  | 10 => ("PulledCrystal", "images", "[LPulledCrystal$Image;", true)
  | 11 => ("PulledCrystal", "wants", "[LPulledCrystal$Want;", true)
  | 12 => ("PulledCrystal", "wantCount", "I", false)
  | 13 => ("PulledCrystal", "cutter", "LPulledCrystal$Cutter;", true)
  | 14 => ("PulledCrystal", "slices", "LPulledCrystal$Slices;", true)
  | 15 => ("PulledCrystal", "replayed", "[J", true)
  | 16 => ("PulledCrystal", "ringRows", "[I", true)
  | 17 => ("PulledCrystal", "ringSeen", "[I", true)
  | _ => ("PulledCrystal", "rings", "I", false)
def tyX11 : Nat → FieldType := fun k => match k with
  | 0 => .object "PulledCrystal$Reader"
  | 1 => .object "PulledCrystal$Tape"
  | 2 => .object "PulledCrystal$Laws"
  | 3 => .object "PulledCrystal$Laws"
  | 4 => .object "PulledCrystal$Desk"
  | 5 => .array .int
  | 6 => .array .int
  | 7 => .int
  | 8 => .object "PulledCrystal$Pot"
  | 9 => .object "PulledCrystal$Pot"
  | 10 => .array (.object "PulledCrystal$Image")
  | 11 => .array (.object "PulledCrystal$Want")
  | 12 => .int
  | 13 => .object "PulledCrystal$Cutter"
  | 14 => .object "PulledCrystal$Slices"
  | 15 => .array .long
  | 16 => .array .int
  | 17 => .array .int
  | _ => .int
abbrev wsX110 : List Cond := u_ws RX11 TX11 19
theorem nmX11 : ∀ a, a < 19 → ∀ b, b < 19 → a ≠ b → (TX11 a).2.1 ≠ (TX11 b).2.1 := by decide +kernel
theorem tyX11_ok : ∀ k, k < 19 → parseFieldDescriptor (TX11 k).2.2.1 = some (tyX11 k) := by decide +kernel
abbrev cX11_init : ByteArray := prog_1_method_1_code
def yX11_init : MethodName := ⟨RX11, "<init>", "()V"⟩
abbrev cX11_feed : ByteArray := prog_1_method_2_code
def yX11_feed : MethodName := ⟨RX11, "feed", "(IIIII)I"⟩
abbrev cX11_end : ByteArray := prog_1_method_3_code
def yX11_end : MethodName := ⟨RX11, "end", "(I)I"⟩
abbrev cX11_furnace : ByteArray := prog_1_method_4_code
def yX11_furnace : MethodName := ⟨RX11, "furnace", "()I"⟩
abbrev cX11_minder : ByteArray := prog_1_method_5_code
def yX11_minder : MethodName := ⟨RX11, "minder", "()I"⟩
abbrev cX11_stuff : ByteArray := prog_1_method_6_code
def yX11_stuff : MethodName := ⟨RX11, "stuff", "(III)I"⟩
abbrev cX11_begin : ByteArray := prog_1_method_7_code
def yX11_begin : MethodName := ⟨RX11, "begin", "(IIIIIIIII)Z"⟩
abbrev cX11_minds : ByteArray := prog_1_method_8_code
def yX11_minds : MethodName := ⟨RX11, "minds", "(I)Z"⟩
abbrev cX11_grow : ByteArray := prog_1_method_9_code
def yX11_grow : MethodName := ⟨RX11, "grow", "(I)I"⟩
abbrev cX11_state : ByteArray := prog_1_method_10_code
def yX11_state : MethodName := ⟨RX11, "state", "()I"⟩
abbrev cX11_count : ByteArray := prog_1_method_11_code
def yX11_count : MethodName := ⟨RX11, "count", "(I)I"⟩
abbrev cX11_row : ByteArray := prog_1_method_12_code
def yX11_row : MethodName := ⟨RX11, "row", "(II)I"⟩
abbrev cX11_much : ByteArray := prog_1_method_13_code
def yX11_much : MethodName := ⟨RX11, "much", "(II)J"⟩
abbrev cX11_parts : ByteArray := prog_1_method_14_code
def yX11_parts : MethodName := ⟨RX11, "parts", "(II)J"⟩
abbrev cX11_melt : ByteArray := prog_1_method_15_code
def yX11_melt : MethodName := ⟨RX11, "melt", "(I)I"⟩
abbrev cX11_fault : ByteArray := prog_1_method_16_code
def yX11_fault : MethodName := ⟨RX11, "fault", "(I)Z"⟩
abbrev cX11_thin : ByteArray := prog_1_method_17_code
def yX11_thin : MethodName := ⟨RX11, "thin", "(I)I"⟩
abbrev cX11_faults : ByteArray := prog_1_method_18_code
def yX11_faults : MethodName := ⟨RX11, "faults", "()I"⟩
abbrev cX11_holds : ByteArray := prog_1_method_19_code
def yX11_holds : MethodName := ⟨RX11, "holds", "()I"⟩
abbrev cX11_want : ByteArray := prog_1_method_20_code
def yX11_want : MethodName := ⟨RX11, "want", "(IIIIII)I"⟩
abbrev cX11_cut : ByteArray := prog_1_method_21_code
def yX11_cut : MethodName := ⟨RX11, "cut", "()I"⟩
abbrev cX11_whose : ByteArray := prog_1_method_22_code
def yX11_whose : MethodName := ⟨RX11, "whose", "(I)I"⟩
abbrev cX11_enough : ByteArray := prog_1_method_23_code
def yX11_enough : MethodName := ⟨RX11, "enough", "(IIIII)I"⟩
abbrev cX11_wander : ByteArray := prog_1_method_24_code
def yX11_wander : MethodName := ⟨RX11, "wander", "(III)I"⟩
abbrev cX11_tried : ByteArray := prog_1_method_25_code
def yX11_tried : MethodName := ⟨RX11, "tried", "(IIII)I"⟩
abbrev cX11_best : ByteArray := prog_1_method_26_code
def yX11_best : MethodName := ⟨RX11, "best", "(I)I"⟩
abbrev cX11_slice : ByteArray := prog_1_method_27_code
def yX11_slice : MethodName := ⟨RX11, "slice", "(IIII)I"⟩
abbrev cX11_span : ByteArray := prog_1_method_28_code
def yX11_span : MethodName := ⟨RX11, "span", "(II)I"⟩
abbrev cX11_choice : ByteArray := prog_1_method_29_code
def yX11_choice : MethodName := ⟨RX11, "choice", "(II)I"⟩
abbrev cX11_piece : ByteArray := prog_1_method_30_code
def yX11_piece : MethodName := ⟨RX11, "piece", "(II)I"⟩
abbrev cX11_why : ByteArray := prog_1_method_31_code
def yX11_why : MethodName := ⟨RX11, "why", "(II)I"⟩
abbrev cX11_stripes : ByteArray := prog_1_method_32_code
def yX11_stripes : MethodName := ⟨RX11, "stripes", "(IIII)I"⟩
abbrev cX11_ring : ByteArray := prog_1_method_33_code
def yX11_ring : MethodName := ⟨RX11, "ring", "(II)I"⟩
abbrev cX11_awry : ByteArray := prog_1_method_34_code
def yX11_awry : MethodName := ⟨RX11, "awry", "(II)I"⟩
abbrev cX11_far : ByteArray := prog_1_method_35_code
def yX11_far : MethodName := ⟨RX11, "far", "(III)I"⟩
abbrev cX11_image : ByteArray := prog_1_method_36_code
def yX11_image : MethodName := ⟨RX11, "image", "(I)I"⟩
abbrev cX11_back : ByteArray := prog_1_method_37_code
def yX11_back : MethodName := ⟨RX11, "back", "(I)I"⟩
abbrev cX11_isImage : ByteArray := prog_1_method_38_code
def yX11_isImage : MethodName := ⟨RX11, "isImage", "(I)Z"⟩
abbrev cX11_mostCoins : ByteArray := prog_1_method_39_code
def yX11_mostCoins : MethodName := ⟨RX11, "mostCoins", "(LPulledCrystal$Pot;)I"⟩
abbrev cX11_rehearse : ByteArray := prog_1_method_40_code
def yX11_rehearse : MethodName := ⟨RX11, "rehearse", "(LPulledCrystal$Law;II)V"⟩
abbrev cX11_countBetween : ByteArray := prog_1_method_41_code
def yX11_countBetween : MethodName := ⟨RX11, "countBetween", "([JIII)I"⟩
abbrev cX11_replace : ByteArray := prog_1_method_42_code
def yX11_replace : MethodName := ⟨RX11, "replace", "([III)I"⟩
abbrev cX11_isStuff : ByteArray := prog_1_method_43_code
def yX11_isStuff : MethodName := ⟨RX11, "isStuff", "(I)Z"⟩
abbrev cX11_isWithin : ByteArray := prog_1_method_44_code
def yX11_isWithin : MethodName := ⟨RX11, "isWithin", "(III)Z"⟩
abbrev cX11_isSpan : ByteArray := prog_1_method_45_code
def yX11_isSpan : MethodName := ⟨RX11, "isSpan", "(II)Z"⟩
abbrev cX11_hold : ByteArray := prog_1_method_46_code
def yX11_hold : MethodName := ⟨RX11, "hold", "(JJJ)J"⟩
abbrev cX11_partsInMillion : ByteArray := prog_1_method_47_code
def yX11_partsInMillion : MethodName := ⟨RX11, "partsInMillion", "(JJ)J"⟩
abbrev cX11_goesAlong : ByteArray := prog_1_method_48_code
def yX11_goesAlong : MethodName := ⟨RX11, "goesAlong", "(JJJJ)J"⟩
def RX12 : String := "PulledCrystalModel"
def TX12 : u_T := fun k => match k with
  | 0 => ("PulledCrystalModel", "tape", "[B", true)
  | 1 => ("PulledCrystalModel", "taped", "I", false)
  | 2 => ("PulledCrystalModel", "sign", "[I", true)
  | 3 => ("PulledCrystalModel", "length", "[I", true)
  | 4 => ("PulledCrystalModel", "clause", "[I", true)
  | 5 => ("PulledCrystalModel", "clauses", "[I", true)
  | 6 => ("PulledCrystalModel", "swirl", "[I", true)
  | 7 => ("PulledCrystalModel", "late", "[I", true)
  | 8 => ("PulledCrystalModel", "gives", "[I", true)
  | 9 => ("PulledCrystalModel", "furnaces", "I", false)
  | 10 => ("PulledCrystalModel", "minders", "I", false)
  | 11 => ("PulledCrystalModel", "next", "I", false)
  | 12 => ("PulledCrystalModel", "wrong", "I", false)
  | 13 => ("PulledCrystalModel", "said", "I", false)
  | 14 => ("PulledCrystalModel", "text", "I", false)
  | 15 => ("PulledCrystalModel", "made", "I", false)
  | 16 => ("PulledCrystalModel", "deep", "I", false)
  | 17 => ("PulledCrystalModel", "open", "[I", true)
  | 18 => ("PulledCrystalModel", "opened", "I", false)
  | 19 => ("PulledCrystalModel", "lines", "I", false)
  | 20 => ("PulledCrystalModel", "stack", "[J", true)
  | 21 => ("PulledCrystalModel", "top", "I", false)
  | 22 => ("PulledCrystalModel", "word", "[J", true)
  | 23 => ("PulledCrystalModel", "put", "[I", true)
  | 24 => ("PulledCrystalModel", "share", "[I", true)
  | 25 => ("PulledCrystalModel", "pot", "[I", true)
  | 26 => ("PulledCrystalModel", "melt", "[J", true)
  | 27 => ("PulledCrystalModel", "potPut", "[I", true)
  | 28 => ("PulledCrystalModel", "potShare", "[I", true)
  | 29 => ("PulledCrystalModel", "rows", "[I", true)
  | 30 => ("PulledCrystalModel", "inRow", "[J", true)
  | 31 => ("PulledCrystalModel", "thin", "I", false)
  | 32 => ("PulledCrystalModel", "wants", "I", false)
  | 33 => ("PulledCrystalModel", "want", "[I", true)
  | 34 => ("PulledCrystalModel", "most", "[I", true)
  | 35 => ("PulledCrystalModel", "endOf", "[I", true)
  | 36 => ("PulledCrystalModel", "forWhom", "[I", true)
  | 37 => ("PulledCrystalModel", "rings", "I", false)
  | 38 => ("PulledCrystalModel", "ring", "[I", true)
  | 39 => ("PulledCrystalModel", "far", "I", false)
  | 40 => ("PulledCrystalModel", "hunts", "I", false)
  | 41 => ("PulledCrystalModel", "keptNumbers", "[I", true)
  | 42 => ("PulledCrystalModel", "keptLongs", "[J", true)
  | 43 => ("PulledCrystalModel", "isKept", "[Z", true)
  | 44 => ("PulledCrystalModel", "triedMany", "I", false)
  | 45 => ("PulledCrystalModel", "triedGrown", "I", false)
  | 46 => ("PulledCrystalModel", "triedWide", "I", false)
  | 47 => ("PulledCrystalModel", "slices", "I", false)
  | _ => ("PulledCrystalModel", "slice", "[I", true)
def tyX12 : Nat → FieldType := fun k => match k with
  | 0 => .array .byte
  | 1 => .int
  | 2 => .array .int
  | 3 => .array .int
  | 4 => .array .int
  | 5 => .array .int
  | 6 => .array .int
  | 7 => .array .int
  | 8 => .array .int
  | 9 => .int
  | 10 => .int
  | 11 => .int
  | 12 => .int
  | 13 => .int
  | 14 => .int
  | 15 => .int
  | 16 => .int
  | 17 => .array .int
  | 18 => .int
  | 19 => .int
  | 20 => .array .long
  | 21 => .int
  | 22 => .array .long
  | 23 => .array .int
  | 24 => .array .int
  | 25 => .array .int
  | 26 => .array .long
  | 27 => .array .int
  | 28 => .array .int
  | 29 => .array .int
  | 30 => .array .long
  | 31 => .int
  | 32 => .int
  | 33 => .array .int
  | 34 => .array .int
  | 35 => .array .int
  | 36 => .array .int
  | 37 => .int
  | 38 => .array .int
  | 39 => .int
  | 40 => .int
  | 41 => .array .int
  | 42 => .array .long
  | 43 => .array .boolean
  | 44 => .int
  | 45 => .int
  | 46 => .int
  | 47 => .int
  | _ => .array .int
abbrev wsX120 : List Cond := u_ws RX12 TX12 49
theorem nmX12 : ∀ a, a < 49 → ∀ b, b < 49 → a ≠ b → (TX12 a).2.1 ≠ (TX12 b).2.1 := by decide +kernel
theorem tyX12_ok : ∀ k, k < 49 → parseFieldDescriptor (TX12 k).2.2.1 = some (tyX12 k) := by decide +kernel
abbrev cX12_init : ByteArray := prog_14_method_1_code
def yX12_init : MethodName := ⟨RX12, "<init>", "()V"⟩
abbrev cX12_in : ByteArray := prog_14_method_2_code
def yX12_in : MethodName := ⟨RX12, "in", "(JJJ)Z"⟩
abbrev cX12_held : ByteArray := prog_14_method_3_code
def yX12_held : MethodName := ⟨RX12, "held", "(JJJ)J"⟩
abbrev cX12_four : ByteArray := prog_14_method_4_code
def yX12_four : MethodName := ⟨RX12, "four", "(I)V"⟩
abbrev cX12_feed : ByteArray := prog_14_method_5_code
def yX12_feed : MethodName := ⟨RX12, "feed", "(IIIII)I"⟩
abbrev cX12_end : ByteArray := prog_14_method_6_code
def yX12_end : MethodName := ⟨RX12, "end", "(I)I"⟩
abbrev cX12_fails : ByteArray := prog_14_method_7_code
def yX12_fails : MethodName := ⟨RX12, "fails", "(II)Z"⟩
abbrev cX12_see : ByteArray := prog_14_method_8_code
def yX12_see : MethodName := ⟨RX12, "see", "()I"⟩
abbrev cX12_isDigit : ByteArray := prog_14_method_9_code
def yX12_isDigit : MethodName := ⟨RX12, "isDigit", "(I)Z"⟩
abbrev cX12_isLetter : ByteArray := prog_14_method_10_code
def yX12_isLetter : MethodName := ⟨RX12, "isLetter", "(I)Z"⟩
abbrev cX12_isWord : ByteArray := prog_14_method_11_code
def yX12_isWord : MethodName := ⟨RX12, "isWord", "(J)Z"⟩
abbrev cX12_passWord : ByteArray := prog_14_method_12_code
def yX12_passWord : MethodName := ⟨RX12, "passWord", "()V"⟩
abbrev cX12_takesWord : ByteArray := prog_14_method_13_code
def yX12_takesWord : MethodName := ⟨RX12, "takesWord", "(J)Z"⟩
abbrev cX12_number : ByteArray := prog_14_method_14_code
def yX12_number : MethodName := ⟨RX12, "number", "(I)Z"⟩
abbrev cX12_wordHere : ByteArray := prog_14_method_15_code
def yX12_wordHere : MethodName := ⟨RX12, "wordHere", "()I"⟩
abbrev cX12_puts : ByteArray := prog_14_method_16_code
def yX12_puts : MethodName := ⟨RX12, "puts", "(II)V"⟩
abbrev cX12_makes : ByteArray := prog_14_method_17_code
def yX12_makes : MethodName := ⟨RX12, "makes", "(I)Z"⟩
abbrev cX12_opens : ByteArray := prog_14_method_18_code
def yX12_opens : MethodName := ⟨RX12, "opens", "(I)Z"⟩
abbrev cX12_strength : ByteArray := prog_14_method_19_code
def yX12_strength : MethodName := ⟨RX12, "strength", "(I)I"⟩
abbrev cX12_settles : ByteArray := prog_14_method_20_code
def yX12_settles : MethodName := ⟨RX12, "settles", "(II)V"⟩
abbrev cX12_value : ByteArray := prog_14_method_21_code
def yX12_value : MethodName := ⟨RX12, "value", "()Z"⟩
abbrev cX12_hasRound : ByteArray := prog_14_method_22_code
def yX12_hasRound : MethodName := ⟨RX12, "hasRound", "(I)Z"⟩
abbrev cX12_closesRound : ByteArray := prog_14_method_23_code
def yX12_closesRound : MethodName := ⟨RX12, "closesRound", "(I)V"⟩
abbrev cX12_sum : ByteArray := prog_14_method_24_code
def yX12_sum : MethodName := ⟨RX12, "sum", "()Z"⟩
abbrev cX12_compare : ByteArray := prog_14_method_25_code
def yX12_compare : MethodName := ⟨RX12, "compare", "()Z"⟩
abbrev cX12_fact : ByteArray := prog_14_method_26_code
def yX12_fact : MethodName := ⟨RX12, "fact", "()Z"⟩
abbrev cX12_hasSquare : ByteArray := prog_14_method_27_code
def yX12_hasSquare : MethodName := ⟨RX12, "hasSquare", "()Z"⟩
abbrev cX12_closesSquare : ByteArray := prog_14_method_28_code
def yX12_closesSquare : MethodName := ⟨RX12, "closesSquare", "()V"⟩
abbrev cX12_test : ByteArray := prog_14_method_29_code
def yX12_test : MethodName := ⟨RX12, "test", "()Z"⟩
abbrev cX12_summed : ByteArray := prog_14_method_30_code
def yX12_summed : MethodName := ⟨RX12, "summed", "(I)Z"⟩
abbrev cX12_told : ByteArray := prog_14_method_31_code
def yX12_told : MethodName := ⟨RX12, "told", "([III)Z"⟩
abbrev cX12_clauseHere : ByteArray := prog_14_method_32_code
def yX12_clauseHere : MethodName := ⟨RX12, "clauseHere", "()Z"⟩
abbrev cX12_reads : ByteArray := prog_14_method_33_code
def yX12_reads : MethodName := ⟨RX12, "reads", "(I)I"⟩
abbrev cX12_furnace : ByteArray := prog_14_method_34_code
def yX12_furnace : MethodName := ⟨RX12, "furnace", "()I"⟩
abbrev cX12_minder : ByteArray := prog_14_method_35_code
def yX12_minder : MethodName := ⟨RX12, "minder", "()I"⟩
abbrev cX12_push : ByteArray := prog_14_method_36_code
def yX12_push : MethodName := ⟨RX12, "push", "(J)V"⟩
abbrev cX12_pop : ByteArray := prog_14_method_37_code
def yX12_pop : MethodName := ⟨RX12, "pop", "()J"⟩
abbrev cX12_one : ByteArray := prog_14_method_38_code
def yX12_one : MethodName := ⟨RX12, "one", "(IJJ)J"⟩
abbrev cX12_reckons : ByteArray := prog_14_method_39_code
def yX12_reckons : MethodName := ⟨RX12, "reckons", "(III)J"⟩
abbrev cX12_holding : ByteArray := prog_14_method_40_code
def yX12_holding : MethodName := ⟨RX12, "holding", "(II)I"⟩
abbrev cX12_stuff : ByteArray := prog_14_method_41_code
def yX12_stuff : MethodName := ⟨RX12, "stuff", "(III)I"⟩
abbrev cX12_rowOf : ByteArray := prog_14_method_42_code
def yX12_rowOf : MethodName := ⟨RX12, "rowOf", "(II)I"⟩
abbrev cX12_isRow : ByteArray := prog_14_method_43_code
def yX12_isRow : MethodName := ⟨RX12, "isRow", "(I)Z"⟩
abbrev cX12_begin : ByteArray := prog_14_method_44_code
def yX12_begin : MethodName := ⟨RX12, "begin", "(IIIIIIIII)Z"⟩
abbrev cX12_minds : ByteArray := prog_14_method_45_code
def yX12_minds : MethodName := ⟨RX12, "minds", "(I)Z"⟩
abbrev cX12_wideAt : ByteArray := prog_14_method_46_code
def yX12_wideAt : MethodName := ⟨RX12, "wideAt", "(I)I"⟩
abbrev cX12_goes : ByteArray := prog_14_method_47_code
def yX12_goes : MethodName := ⟨RX12, "goes", "(JJJJ)J"⟩
abbrev cX12_words : ByteArray := prog_14_method_48_code
def yX12_words : MethodName := ⟨RX12, "words", "(I)V"⟩
abbrev cX12_minded : ByteArray := prog_14_method_49_code
def yX12_minded : MethodName := ⟨RX12, "minded", "(III)I"⟩
abbrev cX12_widens : ByteArray := prog_14_method_50_code
def yX12_widens : MethodName := ⟨RX12, "widens", "(II)V"⟩
abbrev cX12_minute : ByteArray := prog_14_method_51_code
def yX12_minute : MethodName := ⟨RX12, "minute", "()V"⟩
abbrev cX12_goesOn : ByteArray := prog_14_method_52_code
def yX12_goesOn : MethodName := ⟨RX12, "goesOn", "(I)I"⟩
abbrev cX12_grow : ByteArray := prog_14_method_53_code
def yX12_grow : MethodName := ⟨RX12, "grow", "(I)I"⟩
abbrev cX12_state : ByteArray := prog_14_method_54_code
def yX12_state : MethodName := ⟨RX12, "state", "()I"⟩
abbrev cX12_count : ByteArray := prog_14_method_55_code
def yX12_count : MethodName := ⟨RX12, "count", "(I)I"⟩
abbrev cX12_melts : ByteArray := prog_14_method_56_code
def yX12_melts : MethodName := ⟨RX12, "melts", "(I)V"⟩
abbrev cX12_melt : ByteArray := prog_14_method_57_code
def yX12_melt : MethodName := ⟨RX12, "melt", "(I)I"⟩
abbrev cX12_fault : ByteArray := prog_14_method_58_code
def yX12_fault : MethodName := ⟨RX12, "fault", "(I)Z"⟩
abbrev cX12_firstFault : ByteArray := prog_14_method_59_code
def yX12_firstFault : MethodName := ⟨RX12, "firstFault", "()I"⟩
abbrev cX12_thin : ByteArray := prog_14_method_60_code
def yX12_thin : MethodName := ⟨RX12, "thin", "(I)I"⟩
abbrev cX12_isNeck : ByteArray := prog_14_method_61_code
def yX12_isNeck : MethodName := ⟨RX12, "isNeck", "(I)Z"⟩
abbrev cX12_flawsBehind : ByteArray := prog_14_method_62_code
def yX12_flawsBehind : MethodName := ⟨RX12, "flawsBehind", "(I)I"⟩
abbrev cX12_isClean : ByteArray := prog_14_method_63_code
def yX12_isClean : MethodName := ⟨RX12, "isClean", "(I)Z"⟩
abbrev cX12_faults : ByteArray := prog_14_method_64_code
def yX12_faults : MethodName := ⟨RX12, "faults", "()I"⟩
abbrev cX12_holds : ByteArray := prog_14_method_65_code
def yX12_holds : MethodName := ⟨RX12, "holds", "()I"⟩
abbrev cX12_isBody : ByteArray := prog_14_method_66_code
def yX12_isBody : MethodName := ⟨RX12, "isBody", "(I)Z"⟩
abbrev cX12_kind : ByteArray := prog_14_method_67_code
def yX12_kind : MethodName := ⟨RX12, "kind", "(I)I"⟩
abbrev cX12_row : ByteArray := prog_14_method_68_code
def yX12_row : MethodName := ⟨RX12, "row", "(II)I"⟩
abbrev cX12_much : ByteArray := prog_14_method_69_code
def yX12_much : MethodName := ⟨RX12, "much", "(II)J"⟩
abbrev cX12_partsOf : ByteArray := prog_14_method_70_code
def yX12_partsOf : MethodName := ⟨RX12, "partsOf", "(JI)J"⟩
abbrev cX12_parts : ByteArray := prog_14_method_71_code
def yX12_parts : MethodName := ⟨RX12, "parts", "(II)J"⟩
abbrev cX12_want : ByteArray := prog_14_method_72_code
def yX12_want : MethodName := ⟨RX12, "want", "(IIIIII)I"⟩
abbrev cX12_isWanted : ByteArray := prog_14_method_73_code
def yX12_isWanted : MethodName := ⟨RX12, "isWanted", "(II)Z"⟩
abbrev cX12_cuts : ByteArray := prog_14_method_74_code
def yX12_cuts : MethodName := ⟨RX12, "cuts", "()I"⟩
abbrev cX12_cut : ByteArray := prog_14_method_75_code
def yX12_cut : MethodName := ⟨RX12, "cut", "()I"⟩
abbrev cX12_whose : ByteArray := prog_14_method_76_code
def yX12_whose : MethodName := ⟨RX12, "whose", "(I)I"⟩
abbrev cX12_piece : ByteArray := prog_14_method_77_code
def yX12_piece : MethodName := ⟨RX12, "piece", "(II)I"⟩
abbrev cX12_pieceOf : ByteArray := prog_14_method_78_code
def yX12_pieceOf : MethodName := ⟨RX12, "pieceOf", "(IIII)I"⟩
abbrev cX12_why : ByteArray := prog_14_method_79_code
def yX12_why : MethodName := ⟨RX12, "why", "(II)I"⟩
abbrev cX12_stripes : ByteArray := prog_14_method_80_code
def yX12_stripes : MethodName := ⟨RX12, "stripes", "(IIII)I"⟩
abbrev cX12_ring : ByteArray := prog_14_method_81_code
def yX12_ring : MethodName := ⟨RX12, "ring", "(II)I"⟩
abbrev cX12_isAwry : ByteArray := prog_14_method_82_code
def yX12_isAwry : MethodName := ⟨RX12, "isAwry", "(II)Z"⟩
abbrev cX12_awry : ByteArray := prog_14_method_83_code
def yX12_awry : MethodName := ⟨RX12, "awry", "(II)I"⟩
abbrev cX12_enough : ByteArray := prog_14_method_84_code
def yX12_enough : MethodName := ⟨RX12, "enough", "(IIIII)I"⟩
abbrev cX12_looks : ByteArray := prog_14_method_85_code
def yX12_looks : MethodName := ⟨RX12, "looks", "(II)V"⟩
abbrev cX12_wander : ByteArray := prog_14_method_86_code
def yX12_wander : MethodName := ⟨RX12, "wander", "(III)I"⟩
abbrev cX12_keeps : ByteArray := prog_14_method_87_code
def yX12_keeps : MethodName := ⟨RX12, "keeps", "(I)V"⟩
abbrev cX12_returns : ByteArray := prog_14_method_88_code
def yX12_returns : MethodName := ⟨RX12, "returns", "(I)V"⟩
abbrev cX12_image : ByteArray := prog_14_method_89_code
def yX12_image : MethodName := ⟨RX12, "image", "(I)I"⟩
abbrev cX12_back : ByteArray := prog_14_method_90_code
def yX12_back : MethodName := ⟨RX12, "back", "(I)I"⟩
abbrev cX12_tries : ByteArray := prog_14_method_91_code
def yX12_tries : MethodName := ⟨RX12, "tries", "(III)V"⟩
abbrev cX12_tried : ByteArray := prog_14_method_92_code
def yX12_tried : MethodName := ⟨RX12, "tried", "(IIII)I"⟩
abbrev cX12_best : ByteArray := prog_14_method_93_code
def yX12_best : MethodName := ⟨RX12, "best", "(I)I"⟩
abbrev cX12_endsWell : ByteArray := prog_14_method_94_code
def yX12_endsWell : MethodName := ⟨RX12, "endsWell", "(IIII)Z"⟩
abbrev cX12_far : ByteArray := prog_14_method_95_code
def yX12_far : MethodName := ⟨RX12, "far", "(III)I"⟩
abbrev cX12_slice : ByteArray := prog_14_method_96_code
def yX12_slice : MethodName := ⟨RX12, "slice", "(IIII)I"⟩
abbrev cX12_fits : ByteArray := prog_14_method_97_code
def yX12_fits : MethodName := ⟨RX12, "fits", "(IIJ)Z"⟩
abbrev cX12_fitsAll : ByteArray := prog_14_method_98_code
def yX12_fitsAll : MethodName := ⟨RX12, "fitsAll", "(II)Z"⟩
abbrev cX12_span : ByteArray := prog_14_method_99_code
def yX12_span : MethodName := ⟨RX12, "span", "(II)I"⟩
abbrev cX12_coinsOf : ByteArray := prog_14_method_100_code
def yX12_coinsOf : MethodName := ⟨RX12, "coinsOf", "(II)I"⟩
abbrev cX12_choice : ByteArray := prog_14_method_101_code
def yX12_choice : MethodName := ⟨RX12, "choice", "(II)I"⟩
def RL : String := "PulledCrystalLaw"
abbrev cL_law : ByteArray := code
abbrev vwCl : List vw_C := [(RX0, TX0, 6), (RX1, TX1, 3), (RX2, TX2, 5), (RX3, TX3, 10), (RX4, TX4, 2), (RX5, TX5, 19), (RX6, TX6, 6), (RX7, TX7, 8), (RX8, TX8, 8), (RX9, TX9, 2), (RX10, TX10, 6), (RX11, TX11, 19), (RX12, TX12, 49)]
