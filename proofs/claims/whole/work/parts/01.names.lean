-- ===== PART A: goes FIRST, ahead of the names: the tables' words, and 'selects' of the private methods out of them =====
/-- a private method of a class that the tables say can be made, by its rows of tables_1 -/
def lw_okq (q : MethodName × Nat) : Prop := (q.1.cls ≠ "java/lang/invoke/MethodHandle" ∧ q.1.cls ≠ "java/lang/invoke/VarHandle") ∧ Cond.instantiable q.1.cls q.2 ∈ tables_1 ∧ Cond.privateMethod q.1 ∈ tables_1 ∧ Cond.instanceMethod q.1 ∈ tables_1
theorem lw_p0 : lw_okq (⟨"EchoJars", "deny", "(I)Z"⟩, 20) := ⟨⟨by decide +kernel, by decide +kernel⟩, List.mem_of_getElem? (i := 22) (by decide +kernel), List.mem_of_getElem? (i := 423) (by decide +kernel), List.mem_of_getElem? (i := 424) (by decide +kernel)⟩
theorem lw_p1 : lw_okq (⟨"EchoJars", "allow", "()Z"⟩, 20) := ⟨⟨by decide +kernel, by decide +kernel⟩, List.mem_of_getElem? (i := 22) (by decide +kernel), List.mem_of_getElem? (i := 434) (by decide +kernel), List.mem_of_getElem? (i := 435) (by decide +kernel)⟩
theorem lw_p2 : lw_okq (⟨"EchoJars", "placeReason", "(II)I"⟩, 20) := ⟨⟨by decide +kernel, by decide +kernel⟩, List.mem_of_getElem? (i := 22) (by decide +kernel), List.mem_of_getElem? (i := 442) (by decide +kernel), List.mem_of_getElem? (i := 443) (by decide +kernel)⟩
theorem lw_p3 : lw_okq (⟨"EchoJars$Tray", "cut", "(J)J"⟩, 3) := ⟨⟨by decide +kernel, by decide +kernel⟩, List.mem_of_getElem? (i := 31) (by decide +kernel), List.mem_of_getElem? (i := 459) (by decide +kernel), List.mem_of_getElem? (i := 460) (by decide +kernel)⟩
theorem lw_p4 : lw_okq (⟨"EchoJars", "refuse", "(I)I"⟩, 20) := ⟨⟨by decide +kernel, by decide +kernel⟩, List.mem_of_getElem? (i := 22) (by decide +kernel), List.mem_of_getElem? (i := 467) (by decide +kernel), List.mem_of_getElem? (i := 468) (by decide +kernel)⟩
theorem lw_p5 : lw_okq (⟨"EchoJars$ShopReader", "readSound", "()V"⟩, 6) := ⟨⟨by decide +kernel, by decide +kernel⟩, List.mem_of_getElem? (i := 87) (by decide +kernel), List.mem_of_getElem? (i := 590) (by decide +kernel), List.mem_of_getElem? (i := 591) (by decide +kernel)⟩
theorem lw_p6 : lw_okq (⟨"EchoJars$ShopReader", "takeNewName", "([I[II)V"⟩, 6) := ⟨⟨by decide +kernel, by decide +kernel⟩, List.mem_of_getElem? (i := 87) (by decide +kernel), List.mem_of_getElem? (i := 599) (by decide +kernel), List.mem_of_getElem? (i := 600) (by decide +kernel)⟩
theorem lw_p7 : lw_okq (⟨"EchoJars$ShopReader", "findName", "([I[II)I"⟩, 6) := ⟨⟨by decide +kernel, by decide +kernel⟩, List.mem_of_getElem? (i := 87) (by decide +kernel), List.mem_of_getElem? (i := 633) (by decide +kernel), List.mem_of_getElem? (i := 634) (by decide +kernel)⟩
theorem lw_p8 : lw_okq (⟨"EchoJars$ShopReader", "takeLetters", "(LEchoJars$Row;)V"⟩, 6) := ⟨⟨by decide +kernel, by decide +kernel⟩, List.mem_of_getElem? (i := 87) (by decide +kernel), List.mem_of_getElem? (i := 642) (by decide +kernel), List.mem_of_getElem? (i := 643) (by decide +kernel)⟩
theorem lw_p9 : lw_okq (⟨"EchoJars$ShopReader", "readJar", "()V"⟩, 6) := ⟨⟨by decide +kernel, by decide +kernel⟩, List.mem_of_getElem? (i := 87) (by decide +kernel), List.mem_of_getElem? (i := 658) (by decide +kernel), List.mem_of_getElem? (i := 659) (by decide +kernel)⟩
theorem lw_p10 : lw_okq (⟨"EchoJars$ShopReader", "takeSide", "()I"⟩, 6) := ⟨⟨by decide +kernel, by decide +kernel⟩, List.mem_of_getElem? (i := 87) (by decide +kernel), List.mem_of_getElem? (i := 677) (by decide +kernel), List.mem_of_getElem? (i := 678) (by decide +kernel)⟩
theorem lw_p11 : lw_okq (⟨"EchoJars$ShopReader", "readFill", "()V"⟩, 6) := ⟨⟨by decide +kernel, by decide +kernel⟩, List.mem_of_getElem? (i := 87) (by decide +kernel), List.mem_of_getElem? (i := 688) (by decide +kernel), List.mem_of_getElem? (i := 689) (by decide +kernel)⟩
theorem lw_p12 : lw_okq (⟨"EchoJars$ShopReader", "takeToldName", "([I[IIZ)I"⟩, 6) := ⟨⟨by decide +kernel, by decide +kernel⟩, List.mem_of_getElem? (i := 87) (by decide +kernel), List.mem_of_getElem? (i := 692) (by decide +kernel), List.mem_of_getElem? (i := 693) (by decide +kernel)⟩
theorem lw_p13 : lw_okq (⟨"EchoJars", "answer", "(I)I"⟩, 20) := ⟨⟨by decide +kernel, by decide +kernel⟩, List.mem_of_getElem? (i := 22) (by decide +kernel), List.mem_of_getElem? (i := 709) (by decide +kernel), List.mem_of_getElem? (i := 710) (by decide +kernel)⟩
theorem lw_p14 : lw_okq (⟨"EchoJars$LawReader", "readRule", "(LEchoJars$Law;)V"⟩, 1) := ⟨⟨by decide +kernel, by decide +kernel⟩, List.mem_of_getElem? (i := 221) (by decide +kernel), List.mem_of_getElem? (i := 727) (by decide +kernel), List.mem_of_getElem? (i := 728) (by decide +kernel)⟩
theorem lw_p15 : lw_okq (⟨"EchoJars$LawReader", "takeKind", "()I"⟩, 1) := ⟨⟨by decide +kernel, by decide +kernel⟩, List.mem_of_getElem? (i := 221) (by decide +kernel), List.mem_of_getElem? (i := 735) (by decide +kernel), List.mem_of_getElem? (i := 736) (by decide +kernel)⟩
def lw_privs_1 : List (MethodName × Nat) := [(⟨"EchoJars", "deny", "(I)Z"⟩, 20), (⟨"EchoJars", "allow", "()Z"⟩, 20), (⟨"EchoJars", "placeReason", "(II)I"⟩, 20), (⟨"EchoJars$Tray", "cut", "(J)J"⟩, 3), (⟨"EchoJars", "refuse", "(I)I"⟩, 20), (⟨"EchoJars$ShopReader", "readSound", "()V"⟩, 6), (⟨"EchoJars$ShopReader", "takeNewName", "([I[II)V"⟩, 6), (⟨"EchoJars$ShopReader", "findName", "([I[II)I"⟩, 6), (⟨"EchoJars$ShopReader", "takeLetters", "(LEchoJars$Row;)V"⟩, 6), (⟨"EchoJars$ShopReader", "readJar", "()V"⟩, 6), (⟨"EchoJars$ShopReader", "takeSide", "()I"⟩, 6), (⟨"EchoJars$ShopReader", "readFill", "()V"⟩, 6), (⟨"EchoJars$ShopReader", "takeToldName", "([I[IIZ)I"⟩, 6), (⟨"EchoJars", "answer", "(I)I"⟩, 20), (⟨"EchoJars$LawReader", "readRule", "(LEchoJars$Law;)V"⟩, 1), (⟨"EchoJars$LawReader", "takeKind", "()I"⟩, 1)]
theorem lw_r1 : ∀ q ∈ lw_privs_1, lw_okq q := List.forall_mem_cons.mpr ⟨lw_p0, List.forall_mem_cons.mpr ⟨lw_p1, List.forall_mem_cons.mpr ⟨lw_p2, List.forall_mem_cons.mpr ⟨lw_p3, List.forall_mem_cons.mpr ⟨lw_p4, List.forall_mem_cons.mpr ⟨lw_p5, List.forall_mem_cons.mpr ⟨lw_p6, List.forall_mem_cons.mpr ⟨lw_p7, List.forall_mem_cons.mpr ⟨lw_p8, List.forall_mem_cons.mpr ⟨lw_p9, List.forall_mem_cons.mpr ⟨lw_p10, List.forall_mem_cons.mpr ⟨lw_p11, List.forall_mem_cons.mpr ⟨lw_p12, List.forall_mem_cons.mpr ⟨lw_p13, List.forall_mem_cons.mpr ⟨lw_p14, List.forall_mem_cons.mpr ⟨lw_p15, fun _ h => absurd h List.not_mem_nil⟩⟩⟩⟩⟩⟩⟩⟩⟩⟩⟩⟩⟩⟩⟩⟩
theorem lw_p16 : lw_okq (⟨"EchoJars$LawReader", "takeLetterOrRest", "()I"⟩, 1) := ⟨⟨by decide +kernel, by decide +kernel⟩, List.mem_of_getElem? (i := 221) (by decide +kernel), List.mem_of_getElem? (i := 741) (by decide +kernel), List.mem_of_getElem? (i := 742) (by decide +kernel)⟩
theorem lw_p17 : lw_okq (⟨"EchoJars$LawReader", "takeGift", "()I"⟩, 1) := ⟨⟨by decide +kernel, by decide +kernel⟩, List.mem_of_getElem? (i := 221) (by decide +kernel), List.mem_of_getElem? (i := 751) (by decide +kernel), List.mem_of_getElem? (i := 752) (by decide +kernel)⟩
theorem lw_p18 : lw_okq (⟨"EchoJars", "isSound", "(I)Z"⟩, 20) := ⟨⟨by decide +kernel, by decide +kernel⟩, List.mem_of_getElem? (i := 22) (by decide +kernel), List.mem_of_getElem? (i := 785) (by decide +kernel), List.mem_of_getElem? (i := 786) (by decide +kernel)⟩
theorem lw_p19 : lw_okq (⟨"EchoJars", "answerAt", "(LEchoJars$Row;I)I"⟩, 20) := ⟨⟨by decide +kernel, by decide +kernel⟩, List.mem_of_getElem? (i := 22) (by decide +kernel), List.mem_of_getElem? (i := 789) (by decide +kernel), List.mem_of_getElem? (i := 790) (by decide +kernel)⟩
theorem lw_p20 : lw_okq (⟨"EchoJars", "isJar", "(I)Z"⟩, 20) := ⟨⟨by decide +kernel, by decide +kernel⟩, List.mem_of_getElem? (i := 22) (by decide +kernel), List.mem_of_getElem? (i := 806) (by decide +kernel), List.mem_of_getElem? (i := 807) (by decide +kernel)⟩
theorem lw_p21 : lw_okq (⟨"EchoJars", "hear", "(I)LEchoJars$Row;"⟩, 20) := ⟨⟨by decide +kernel, by decide +kernel⟩, List.mem_of_getElem? (i := 22) (by decide +kernel), List.mem_of_getElem? (i := 825) (by decide +kernel), List.mem_of_getElem? (i := 826) (by decide +kernel)⟩
theorem lw_p22 : lw_okq (⟨"EchoJars", "bring", "(LEchoJars$Row;I)I"⟩, 20) := ⟨⟨by decide +kernel, by decide +kernel⟩, List.mem_of_getElem? (i := 22) (by decide +kernel), List.mem_of_getElem? (i := 863) (by decide +kernel), List.mem_of_getElem? (i := 864) (by decide +kernel)⟩
theorem lw_p23 : lw_okq (⟨"EchoJars", "answerOrNoSuch", "(I)I"⟩, 20) := ⟨⟨by decide +kernel, by decide +kernel⟩, List.mem_of_getElem? (i := 22) (by decide +kernel), List.mem_of_getElem? (i := 881) (by decide +kernel), List.mem_of_getElem? (i := 882) (by decide +kernel)⟩
theorem lw_p24 : lw_okq (⟨"EchoJars", "mixRows", "(LEchoJars$Row;LEchoJars$Row;I)LEchoJars$Row;"⟩, 20) := ⟨⟨by decide +kernel, by decide +kernel⟩, List.mem_of_getElem? (i := 22) (by decide +kernel), List.mem_of_getElem? (i := 903) (by decide +kernel), List.mem_of_getElem? (i := 904) (by decide +kernel)⟩
theorem lw_p25 : lw_okq (⟨"EchoJars", "rowReason", "(IIII)I"⟩, 20) := ⟨⟨by decide +kernel, by decide +kernel⟩, List.mem_of_getElem? (i := 22) (by decide +kernel), List.mem_of_getElem? (i := 929) (by decide +kernel), List.mem_of_getElem? (i := 930) (by decide +kernel)⟩
theorem lw_p26 : lw_okq (⟨"EchoJars", "countCouples", "()V"⟩, 20) := ⟨⟨by decide +kernel, by decide +kernel⟩, List.mem_of_getElem? (i := 22) (by decide +kernel), List.mem_of_getElem? (i := 938) (by decide +kernel), List.mem_of_getElem? (i := 939) (by decide +kernel)⟩
theorem lw_p27 : lw_okq (⟨"EchoJars", "isJarSet", "(I)Z"⟩, 20) := ⟨⟨by decide +kernel, by decide +kernel⟩, List.mem_of_getElem? (i := 22) (by decide +kernel), List.mem_of_getElem? (i := 981) (by decide +kernel), List.mem_of_getElem? (i := 982) (by decide +kernel)⟩
theorem lw_p28 : lw_okq (⟨"EchoJars", "speakers", "(I)I"⟩, 20) := ⟨⟨by decide +kernel, by decide +kernel⟩, List.mem_of_getElem? (i := 22) (by decide +kernel), List.mem_of_getElem? (i := 1021) (by decide +kernel), List.mem_of_getElem? (i := 1022) (by decide +kernel)⟩
theorem lw_p29 : lw_okq (⟨"EchoJars$Row", "tailIsHead", "(LEchoJars$Row;I)Z"⟩, 3) := ⟨⟨by decide +kernel, by decide +kernel⟩, List.mem_of_getElem? (i := 102) (by decide +kernel), List.mem_of_getElem? (i := 1042) (by decide +kernel), List.mem_of_getElem? (i := 1043) (by decide +kernel)⟩
theorem lw_p30 : lw_okq (⟨"EchoJars$Merger", "measureOverlaps", "()V"⟩, 9) := ⟨⟨by decide +kernel, by decide +kernel⟩, List.mem_of_getElem? (i := 275) (by decide +kernel), List.mem_of_getElem? (i := 1063) (by decide +kernel), List.mem_of_getElem? (i := 1064) (by decide +kernel)⟩
theorem lw_p31 : lw_okq (⟨"EchoJars$Merger", "measureRests", "()V"⟩, 9) := ⟨⟨by decide +kernel, by decide +kernel⟩, List.mem_of_getElem? (i := 275) (by decide +kernel), List.mem_of_getElem? (i := 1068) (by decide +kernel), List.mem_of_getElem? (i := 1069) (by decide +kernel)⟩
def lw_privs_2 : List (MethodName × Nat) := [(⟨"EchoJars$LawReader", "takeLetterOrRest", "()I"⟩, 1), (⟨"EchoJars$LawReader", "takeGift", "()I"⟩, 1), (⟨"EchoJars", "isSound", "(I)Z"⟩, 20), (⟨"EchoJars", "answerAt", "(LEchoJars$Row;I)I"⟩, 20), (⟨"EchoJars", "isJar", "(I)Z"⟩, 20), (⟨"EchoJars", "hear", "(I)LEchoJars$Row;"⟩, 20), (⟨"EchoJars", "bring", "(LEchoJars$Row;I)I"⟩, 20), (⟨"EchoJars", "answerOrNoSuch", "(I)I"⟩, 20), (⟨"EchoJars", "mixRows", "(LEchoJars$Row;LEchoJars$Row;I)LEchoJars$Row;"⟩, 20), (⟨"EchoJars", "rowReason", "(IIII)I"⟩, 20), (⟨"EchoJars", "countCouples", "()V"⟩, 20), (⟨"EchoJars", "isJarSet", "(I)Z"⟩, 20), (⟨"EchoJars", "speakers", "(I)I"⟩, 20), (⟨"EchoJars$Row", "tailIsHead", "(LEchoJars$Row;I)Z"⟩, 3), (⟨"EchoJars$Merger", "measureOverlaps", "()V"⟩, 9), (⟨"EchoJars$Merger", "measureRests", "()V"⟩, 9)]
theorem lw_r2 : ∀ q ∈ lw_privs_2, lw_okq q := List.forall_mem_cons.mpr ⟨lw_p16, List.forall_mem_cons.mpr ⟨lw_p17, List.forall_mem_cons.mpr ⟨lw_p18, List.forall_mem_cons.mpr ⟨lw_p19, List.forall_mem_cons.mpr ⟨lw_p20, List.forall_mem_cons.mpr ⟨lw_p21, List.forall_mem_cons.mpr ⟨lw_p22, List.forall_mem_cons.mpr ⟨lw_p23, List.forall_mem_cons.mpr ⟨lw_p24, List.forall_mem_cons.mpr ⟨lw_p25, List.forall_mem_cons.mpr ⟨lw_p26, List.forall_mem_cons.mpr ⟨lw_p27, List.forall_mem_cons.mpr ⟨lw_p28, List.forall_mem_cons.mpr ⟨lw_p29, List.forall_mem_cons.mpr ⟨lw_p30, List.forall_mem_cons.mpr ⟨lw_p31, fun _ h => absurd h List.not_mem_nil⟩⟩⟩⟩⟩⟩⟩⟩⟩⟩⟩⟩⟩⟩⟩⟩
theorem lw_p32 : lw_okq (⟨"EchoJars$Merger", "restWith", "(III)I"⟩, 9) := ⟨⟨by decide +kernel, by decide +kernel⟩, List.mem_of_getElem? (i := 275) (by decide +kernel), List.mem_of_getElem? (i := 1074) (by decide +kernel), List.mem_of_getElem? (i := 1075) (by decide +kernel)⟩
theorem lw_p33 : lw_okq (⟨"EchoJars$Merger", "openFirsts", "()I"⟩, 9) := ⟨⟨by decide +kernel, by decide +kernel⟩, List.mem_of_getElem? (i := 275) (by decide +kernel), List.mem_of_getElem? (i := 1082) (by decide +kernel), List.mem_of_getElem? (i := 1083) (by decide +kernel)⟩
theorem lw_p34 : lw_okq (⟨"EchoJars$Merger", "addOpen", "(I)V"⟩, 9) := ⟨⟨by decide +kernel, by decide +kernel⟩, List.mem_of_getElem? (i := 275) (by decide +kernel), List.mem_of_getElem? (i := 1086) (by decide +kernel), List.mem_of_getElem? (i := 1087) (by decide +kernel)⟩
theorem lw_p35 : lw_okq (⟨"EchoJars$Merger", "leastLetter", "(I)I"⟩, 9) := ⟨⟨by decide +kernel, by decide +kernel⟩, List.mem_of_getElem? (i := 275) (by decide +kernel), List.mem_of_getElem? (i := 1091) (by decide +kernel), List.mem_of_getElem? (i := 1092) (by decide +kernel)⟩
theorem lw_p36 : lw_okq (⟨"EchoJars$Merger", "letterOf", "(II)I"⟩, 9) := ⟨⟨by decide +kernel, by decide +kernel⟩, List.mem_of_getElem? (i := 275) (by decide +kernel), List.mem_of_getElem? (i := 1095) (by decide +kernel), List.mem_of_getElem? (i := 1096) (by decide +kernel)⟩
theorem lw_p37 : lw_okq (⟨"EchoJars$Merger", "placeIn", "(II)I"⟩, 9) := ⟨⟨by decide +kernel, by decide +kernel⟩, List.mem_of_getElem? (i := 275) (by decide +kernel), List.mem_of_getElem? (i := 1099) (by decide +kernel), List.mem_of_getElem? (i := 1100) (by decide +kernel)⟩
theorem lw_p38 : lw_okq (⟨"EchoJars$Merger", "follow", "(II)V"⟩, 9) := ⟨⟨by decide +kernel, by decide +kernel⟩, List.mem_of_getElem? (i := 275) (by decide +kernel), List.mem_of_getElem? (i := 1105) (by decide +kernel), List.mem_of_getElem? (i := 1106) (by decide +kernel)⟩
theorem lw_p39 : lw_okq (⟨"EchoJars$Merger", "addNexts", "(I)V"⟩, 9) := ⟨⟨by decide +kernel, by decide +kernel⟩, List.mem_of_getElem? (i := 275) (by decide +kernel), List.mem_of_getElem? (i := 1109) (by decide +kernel), List.mem_of_getElem? (i := 1110) (by decide +kernel)⟩
theorem lw_p40 : lw_okq (⟨"EchoJars", "followers", "(II)I"⟩, 20) := ⟨⟨by decide +kernel, by decide +kernel⟩, List.mem_of_getElem? (i := 22) (by decide +kernel), List.mem_of_getElem? (i := 1149) (by decide +kernel), List.mem_of_getElem? (i := 1150) (by decide +kernel)⟩
theorem lw_p41 : lw_okq (⟨"EchoJars$Planner", "bestLink", "(II)I"⟩, 5) := ⟨⟨by decide +kernel, by decide +kernel⟩, List.mem_of_getElem? (i := 313) (by decide +kernel), List.mem_of_getElem? (i := 1163) (by decide +kernel), List.mem_of_getElem? (i := 1164) (by decide +kernel)⟩
theorem lw_p42 : lw_okq (⟨"EchoJars$Planner", "lengthWith", "(II)I"⟩, 5) := ⟨⟨by decide +kernel, by decide +kernel⟩, List.mem_of_getElem? (i := 313) (by decide +kernel), List.mem_of_getElem? (i := 1167) (by decide +kernel), List.mem_of_getElem? (i := 1168) (by decide +kernel)⟩
theorem lw_p43 : lw_okq (⟨"EchoJars", "leastWitness", "(I)I"⟩, 20) := ⟨⟨by decide +kernel, by decide +kernel⟩, List.mem_of_getElem? (i := 22) (by decide +kernel), List.mem_of_getElem? (i := 1181) (by decide +kernel), List.mem_of_getElem? (i := 1182) (by decide +kernel)⟩
theorem lw_p44 : lw_okq (⟨"EchoJars", "fitsCounted", "(I)I"⟩, 20) := ⟨⟨by decide +kernel, by decide +kernel⟩, List.mem_of_getElem? (i := 22) (by decide +kernel), List.mem_of_getElem? (i := 1185) (by decide +kernel), List.mem_of_getElem? (i := 1186) (by decide +kernel)⟩
theorem lw_p45 : lw_okq (⟨"EchoJars", "bestFilling", "(LEchoJars$Jar;LEchoJars$Row;I)I"⟩, 20) := ⟨⟨by decide +kernel, by decide +kernel⟩, List.mem_of_getElem? (i := 22) (by decide +kernel), List.mem_of_getElem? (i := 1193) (by decide +kernel), List.mem_of_getElem? (i := 1194) (by decide +kernel)⟩
theorem lw_p46 : lw_okq (⟨"EchoJars$Shop", "keptBy", "(II)I"⟩, 4) := ⟨⟨by decide +kernel, by decide +kernel⟩, List.mem_of_getElem? (i := 93) (by decide +kernel), List.mem_of_getElem? (i := 1230) (by decide +kernel), List.mem_of_getElem? (i := 1231) (by decide +kernel)⟩
theorem lw_p47 : lw_okq (⟨"EchoJars$Planner", "bestOpening", "(LEchoJars$Shop;III)I"⟩, 5) := ⟨⟨by decide +kernel, by decide +kernel⟩, List.mem_of_getElem? (i := 313) (by decide +kernel), List.mem_of_getElem? (i := 1249) (by decide +kernel), List.mem_of_getElem? (i := 1250) (by decide +kernel)⟩
def lw_privs_3 : List (MethodName × Nat) := [(⟨"EchoJars$Merger", "restWith", "(III)I"⟩, 9), (⟨"EchoJars$Merger", "openFirsts", "()I"⟩, 9), (⟨"EchoJars$Merger", "addOpen", "(I)V"⟩, 9), (⟨"EchoJars$Merger", "leastLetter", "(I)I"⟩, 9), (⟨"EchoJars$Merger", "letterOf", "(II)I"⟩, 9), (⟨"EchoJars$Merger", "placeIn", "(II)I"⟩, 9), (⟨"EchoJars$Merger", "follow", "(II)V"⟩, 9), (⟨"EchoJars$Merger", "addNexts", "(I)V"⟩, 9), (⟨"EchoJars", "followers", "(II)I"⟩, 20), (⟨"EchoJars$Planner", "bestLink", "(II)I"⟩, 5), (⟨"EchoJars$Planner", "lengthWith", "(II)I"⟩, 5), (⟨"EchoJars", "leastWitness", "(I)I"⟩, 20), (⟨"EchoJars", "fitsCounted", "(I)I"⟩, 20), (⟨"EchoJars", "bestFilling", "(LEchoJars$Jar;LEchoJars$Row;I)I"⟩, 20), (⟨"EchoJars$Shop", "keptBy", "(II)I"⟩, 4), (⟨"EchoJars$Planner", "bestOpening", "(LEchoJars$Shop;III)I"⟩, 5)]
theorem lw_r3 : ∀ q ∈ lw_privs_3, lw_okq q := List.forall_mem_cons.mpr ⟨lw_p32, List.forall_mem_cons.mpr ⟨lw_p33, List.forall_mem_cons.mpr ⟨lw_p34, List.forall_mem_cons.mpr ⟨lw_p35, List.forall_mem_cons.mpr ⟨lw_p36, List.forall_mem_cons.mpr ⟨lw_p37, List.forall_mem_cons.mpr ⟨lw_p38, List.forall_mem_cons.mpr ⟨lw_p39, List.forall_mem_cons.mpr ⟨lw_p40, List.forall_mem_cons.mpr ⟨lw_p41, List.forall_mem_cons.mpr ⟨lw_p42, List.forall_mem_cons.mpr ⟨lw_p43, List.forall_mem_cons.mpr ⟨lw_p44, List.forall_mem_cons.mpr ⟨lw_p45, List.forall_mem_cons.mpr ⟨lw_p46, List.forall_mem_cons.mpr ⟨lw_p47, fun _ h => absurd h List.not_mem_nil⟩⟩⟩⟩⟩⟩⟩⟩⟩⟩⟩⟩⟩⟩⟩⟩
theorem lw_p48 : lw_okq (⟨"EchoJars$Planner", "gainWith", "(LEchoJars$Shop;III)I"⟩, 5) := ⟨⟨by decide +kernel, by decide +kernel⟩, List.mem_of_getElem? (i := 313) (by decide +kernel), List.mem_of_getElem? (i := 1253) (by decide +kernel), List.mem_of_getElem? (i := 1254) (by decide +kernel)⟩
theorem lw_p49 : lw_okq (⟨"EchoJars", "leastPiecing", "(LEchoJars$Row;Z)I"⟩, 20) := ⟨⟨by decide +kernel, by decide +kernel⟩, List.mem_of_getElem? (i := 22) (by decide +kernel), List.mem_of_getElem? (i := 1267) (by decide +kernel), List.mem_of_getElem? (i := 1268) (by decide +kernel)⟩
theorem lw_p50 : lw_okq (⟨"EchoJars", "longestPiece", "(LEchoJars$Row;I)I"⟩, 20) := ⟨⟨by decide +kernel, by decide +kernel⟩, List.mem_of_getElem? (i := 22) (by decide +kernel), List.mem_of_getElem? (i := 1271) (by decide +kernel), List.mem_of_getElem? (i := 1272) (by decide +kernel)⟩
theorem lw_p51 : lw_okq (⟨"EchoJars", "tellFraction", "(JJ)V"⟩, 20) := ⟨⟨by decide +kernel, by decide +kernel⟩, List.mem_of_getElem? (i := 22) (by decide +kernel), List.mem_of_getElem? (i := 1300) (by decide +kernel), List.mem_of_getElem? (i := 1301) (by decide +kernel)⟩
theorem lw_p52 : lw_okq (⟨"EchoJars", "threeReason", "(IIII)I"⟩, 20) := ⟨⟨by decide +kernel, by decide +kernel⟩, List.mem_of_getElem? (i := 22) (by decide +kernel), List.mem_of_getElem? (i := 1314) (by decide +kernel), List.mem_of_getElem? (i := 1315) (by decide +kernel)⟩
theorem lw_p53 : lw_okq (⟨"EchoJarsModel", "no", "(I)Z"⟩, 48) := ⟨⟨by decide +kernel, by decide +kernel⟩, List.mem_of_getElem? (i := 1344) (by decide +kernel), List.mem_of_getElem? (i := 1511) (by decide +kernel), List.mem_of_getElem? (i := 1512) (by decide +kernel)⟩
theorem lw_p54 : lw_okq (⟨"EchoJarsModel", "placed", "(II)I"⟩, 48) := ⟨⟨by decide +kernel, by decide +kernel⟩, List.mem_of_getElem? (i := 1344) (by decide +kernel), List.mem_of_getElem? (i := 1519) (by decide +kernel), List.mem_of_getElem? (i := 1520) (by decide +kernel)⟩
theorem lw_p55 : lw_okq (⟨"EchoJarsModel", "trayed", "(I)I"⟩, 48) := ⟨⟨by decide +kernel, by decide +kernel⟩, List.mem_of_getElem? (i := 1344) (by decide +kernel), List.mem_of_getElem? (i := 1523) (by decide +kernel), List.mem_of_getElem? (i := 1524) (by decide +kernel)⟩
theorem lw_p56 : lw_okq (⟨"EchoJarsModel", "lay", "(I)V"⟩, 48) := ⟨⟨by decide +kernel, by decide +kernel⟩, List.mem_of_getElem? (i := 1344) (by decide +kernel), List.mem_of_getElem? (i := 1543) (by decide +kernel), List.mem_of_getElem? (i := 1544) (by decide +kernel)⟩
theorem lw_p57 : lw_okq (⟨"EchoJarsModel", "opens", "(II)Z"⟩, 48) := ⟨⟨by decide +kernel, by decide +kernel⟩, List.mem_of_getElem? (i := 1344) (by decide +kernel), List.mem_of_getElem? (i := 1555) (by decide +kernel), List.mem_of_getElem? (i := 1556) (by decide +kernel)⟩
theorem lw_p58 : lw_okq (⟨"EchoJarsModel", "next", "()V"⟩, 48) := ⟨⟨by decide +kernel, by decide +kernel⟩, List.mem_of_getElem? (i := 1344) (by decide +kernel), List.mem_of_getElem? (i := 1559) (by decide +kernel), List.mem_of_getElem? (i := 1560) (by decide +kernel)⟩
theorem lw_p59 : lw_okq (⟨"EchoJarsModel", "look2", "(I)I"⟩, 48) := ⟨⟨by decide +kernel, by decide +kernel⟩, List.mem_of_getElem? (i := 1344) (by decide +kernel), List.mem_of_getElem? (i := 1563) (by decide +kernel), List.mem_of_getElem? (i := 1564) (by decide +kernel)⟩
theorem lw_p60 : lw_okq (⟨"EchoJarsModel", "isSound", "()Z"⟩, 48) := ⟨⟨by decide +kernel, by decide +kernel⟩, List.mem_of_getElem? (i := 1344) (by decide +kernel), List.mem_of_getElem? (i := 1575) (by decide +kernel), List.mem_of_getElem? (i := 1576) (by decide +kernel)⟩
theorem lw_p61 : lw_okq (⟨"EchoJarsModel", "isWord", "(J)Z"⟩, 48) := ⟨⟨by decide +kernel, by decide +kernel⟩, List.mem_of_getElem? (i := 1344) (by decide +kernel), List.mem_of_getElem? (i := 1582) (by decide +kernel), List.mem_of_getElem? (i := 1583) (by decide +kernel)⟩
theorem lw_p62 : lw_okq (⟨"EchoJarsModel", "readSound", "()V"⟩, 48) := ⟨⟨by decide +kernel, by decide +kernel⟩, List.mem_of_getElem? (i := 1344) (by decide +kernel), List.mem_of_getElem? (i := 1586) (by decide +kernel), List.mem_of_getElem? (i := 1587) (by decide +kernel)⟩
theorem lw_p63 : lw_okq (⟨"EchoJarsModel", "fail", "(II)V"⟩, 48) := ⟨⟨by decide +kernel, by decide +kernel⟩, List.mem_of_getElem? (i := 1344) (by decide +kernel), List.mem_of_getElem? (i := 1590) (by decide +kernel), List.mem_of_getElem? (i := 1591) (by decide +kernel)⟩
def lw_privs_4 : List (MethodName × Nat) := [(⟨"EchoJars$Planner", "gainWith", "(LEchoJars$Shop;III)I"⟩, 5), (⟨"EchoJars", "leastPiecing", "(LEchoJars$Row;Z)I"⟩, 20), (⟨"EchoJars", "longestPiece", "(LEchoJars$Row;I)I"⟩, 20), (⟨"EchoJars", "tellFraction", "(JJ)V"⟩, 20), (⟨"EchoJars", "threeReason", "(IIII)I"⟩, 20), (⟨"EchoJarsModel", "no", "(I)Z"⟩, 48), (⟨"EchoJarsModel", "placed", "(II)I"⟩, 48), (⟨"EchoJarsModel", "trayed", "(I)I"⟩, 48), (⟨"EchoJarsModel", "lay", "(I)V"⟩, 48), (⟨"EchoJarsModel", "opens", "(II)Z"⟩, 48), (⟨"EchoJarsModel", "next", "()V"⟩, 48), (⟨"EchoJarsModel", "look2", "(I)I"⟩, 48), (⟨"EchoJarsModel", "isSound", "()Z"⟩, 48), (⟨"EchoJarsModel", "isWord", "(J)Z"⟩, 48), (⟨"EchoJarsModel", "readSound", "()V"⟩, 48), (⟨"EchoJarsModel", "fail", "(II)V"⟩, 48)]
theorem lw_r4 : ∀ q ∈ lw_privs_4, lw_okq q := List.forall_mem_cons.mpr ⟨lw_p48, List.forall_mem_cons.mpr ⟨lw_p49, List.forall_mem_cons.mpr ⟨lw_p50, List.forall_mem_cons.mpr ⟨lw_p51, List.forall_mem_cons.mpr ⟨lw_p52, List.forall_mem_cons.mpr ⟨lw_p53, List.forall_mem_cons.mpr ⟨lw_p54, List.forall_mem_cons.mpr ⟨lw_p55, List.forall_mem_cons.mpr ⟨lw_p56, List.forall_mem_cons.mpr ⟨lw_p57, List.forall_mem_cons.mpr ⟨lw_p58, List.forall_mem_cons.mpr ⟨lw_p59, List.forall_mem_cons.mpr ⟨lw_p60, List.forall_mem_cons.mpr ⟨lw_p61, List.forall_mem_cons.mpr ⟨lw_p62, List.forall_mem_cons.mpr ⟨lw_p63, fun _ h => absurd h List.not_mem_nil⟩⟩⟩⟩⟩⟩⟩⟩⟩⟩⟩⟩⟩⟩⟩⟩
theorem lw_p64 : lw_okq (⟨"EchoJarsModel", "readNew", "(II)V"⟩, 48) := ⟨⟨by decide +kernel, by decide +kernel⟩, List.mem_of_getElem? (i := 1344) (by decide +kernel), List.mem_of_getElem? (i := 1594) (by decide +kernel), List.mem_of_getElem? (i := 1595) (by decide +kernel)⟩
theorem lw_p65 : lw_okq (⟨"EchoJarsModel", "isName", "()Z"⟩, 48) := ⟨⟨by decide +kernel, by decide +kernel⟩, List.mem_of_getElem? (i := 1344) (by decide +kernel), List.mem_of_getElem? (i := 1598) (by decide +kernel), List.mem_of_getElem? (i := 1599) (by decide +kernel)⟩
theorem lw_p66 : lw_okq (⟨"EchoJarsModel", "isKept", "()Z"⟩, 48) := ⟨⟨by decide +kernel, by decide +kernel⟩, List.mem_of_getElem? (i := 1344) (by decide +kernel), List.mem_of_getElem? (i := 1602) (by decide +kernel), List.mem_of_getElem? (i := 1603) (by decide +kernel)⟩
theorem lw_p67 : lw_okq (⟨"EchoJarsModel", "isJar", "()Z"⟩, 48) := ⟨⟨by decide +kernel, by decide +kernel⟩, List.mem_of_getElem? (i := 1344) (by decide +kernel), List.mem_of_getElem? (i := 1606) (by decide +kernel), List.mem_of_getElem? (i := 1607) (by decide +kernel)⟩
theorem lw_p68 : lw_okq (⟨"EchoJarsModel", "isSize", "()Z"⟩, 48) := ⟨⟨by decide +kernel, by decide +kernel⟩, List.mem_of_getElem? (i := 1344) (by decide +kernel), List.mem_of_getElem? (i := 1610) (by decide +kernel), List.mem_of_getElem? (i := 1611) (by decide +kernel)⟩
theorem lw_p69 : lw_okq (⟨"EchoJarsModel", "isLeaks", "()Z"⟩, 48) := ⟨⟨by decide +kernel, by decide +kernel⟩, List.mem_of_getElem? (i := 1344) (by decide +kernel), List.mem_of_getElem? (i := 1614) (by decide +kernel), List.mem_of_getElem? (i := 1615) (by decide +kernel)⟩
theorem lw_p70 : lw_okq (⟨"EchoJarsModel", "isHead", "()Z"⟩, 48) := ⟨⟨by decide +kernel, by decide +kernel⟩, List.mem_of_getElem? (i := 1344) (by decide +kernel), List.mem_of_getElem? (i := 1618) (by decide +kernel), List.mem_of_getElem? (i := 1619) (by decide +kernel)⟩
theorem lw_p71 : lw_okq (⟨"EchoJarsModel", "isTail", "()Z"⟩, 48) := ⟨⟨by decide +kernel, by decide +kernel⟩, List.mem_of_getElem? (i := 1344) (by decide +kernel), List.mem_of_getElem? (i := 1622) (by decide +kernel), List.mem_of_getElem? (i := 1623) (by decide +kernel)⟩
theorem lw_p72 : lw_okq (⟨"EchoJarsModel", "isCosts", "()Z"⟩, 48) := ⟨⟨by decide +kernel, by decide +kernel⟩, List.mem_of_getElem? (i := 1344) (by decide +kernel), List.mem_of_getElem? (i := 1626) (by decide +kernel), List.mem_of_getElem? (i := 1627) (by decide +kernel)⟩
theorem lw_p73 : lw_okq (⟨"EchoJarsModel", "isWorth", "()Z"⟩, 48) := ⟨⟨by decide +kernel, by decide +kernel⟩, List.mem_of_getElem? (i := 1344) (by decide +kernel), List.mem_of_getElem? (i := 1630) (by decide +kernel), List.mem_of_getElem? (i := 1631) (by decide +kernel)⟩
theorem lw_p74 : lw_okq (⟨"EchoJarsModel", "isBreaks", "()Z"⟩, 48) := ⟨⟨by decide +kernel, by decide +kernel⟩, List.mem_of_getElem? (i := 1344) (by decide +kernel), List.mem_of_getElem? (i := 1634) (by decide +kernel), List.mem_of_getElem? (i := 1635) (by decide +kernel)⟩
theorem lw_p75 : lw_okq (⟨"EchoJarsModel", "isFill", "()Z"⟩, 48) := ⟨⟨by decide +kernel, by decide +kernel⟩, List.mem_of_getElem? (i := 1344) (by decide +kernel), List.mem_of_getElem? (i := 1638) (by decide +kernel), List.mem_of_getElem? (i := 1639) (by decide +kernel)⟩
theorem lw_p76 : lw_okq (⟨"EchoJarsModel", "isOf", "()Z"⟩, 48) := ⟨⟨by decide +kernel, by decide +kernel⟩, List.mem_of_getElem? (i := 1344) (by decide +kernel), List.mem_of_getElem? (i := 1642) (by decide +kernel), List.mem_of_getElem? (i := 1643) (by decide +kernel)⟩
theorem lw_p77 : lw_okq (⟨"EchoJarsModel", "isFrom", "()Z"⟩, 48) := ⟨⟨by decide +kernel, by decide +kernel⟩, List.mem_of_getElem? (i := 1344) (by decide +kernel), List.mem_of_getElem? (i := 1646) (by decide +kernel), List.mem_of_getElem? (i := 1647) (by decide +kernel)⟩
theorem lw_p78 : lw_okq (⟨"EchoJarsModel", "isOn", "()Z"⟩, 48) := ⟨⟨by decide +kernel, by decide +kernel⟩, List.mem_of_getElem? (i := 1344) (by decide +kernel), List.mem_of_getElem? (i := 1650) (by decide +kernel), List.mem_of_getElem? (i := 1651) (by decide +kernel)⟩
theorem lw_p79 : lw_okq (⟨"EchoJarsModel", "isMix", "()Z"⟩, 48) := ⟨⟨by decide +kernel, by decide +kernel⟩, List.mem_of_getElem? (i := 1344) (by decide +kernel), List.mem_of_getElem? (i := 1654) (by decide +kernel), List.mem_of_getElem? (i := 1655) (by decide +kernel)⟩
def lw_privs_5 : List (MethodName × Nat) := [(⟨"EchoJarsModel", "readNew", "(II)V"⟩, 48), (⟨"EchoJarsModel", "isName", "()Z"⟩, 48), (⟨"EchoJarsModel", "isKept", "()Z"⟩, 48), (⟨"EchoJarsModel", "isJar", "()Z"⟩, 48), (⟨"EchoJarsModel", "isSize", "()Z"⟩, 48), (⟨"EchoJarsModel", "isLeaks", "()Z"⟩, 48), (⟨"EchoJarsModel", "isHead", "()Z"⟩, 48), (⟨"EchoJarsModel", "isTail", "()Z"⟩, 48), (⟨"EchoJarsModel", "isCosts", "()Z"⟩, 48), (⟨"EchoJarsModel", "isWorth", "()Z"⟩, 48), (⟨"EchoJarsModel", "isBreaks", "()Z"⟩, 48), (⟨"EchoJarsModel", "isFill", "()Z"⟩, 48), (⟨"EchoJarsModel", "isOf", "()Z"⟩, 48), (⟨"EchoJarsModel", "isFrom", "()Z"⟩, 48), (⟨"EchoJarsModel", "isOn", "()Z"⟩, 48), (⟨"EchoJarsModel", "isMix", "()Z"⟩, 48)]
theorem lw_r5 : ∀ q ∈ lw_privs_5, lw_okq q := List.forall_mem_cons.mpr ⟨lw_p64, List.forall_mem_cons.mpr ⟨lw_p65, List.forall_mem_cons.mpr ⟨lw_p66, List.forall_mem_cons.mpr ⟨lw_p67, List.forall_mem_cons.mpr ⟨lw_p68, List.forall_mem_cons.mpr ⟨lw_p69, List.forall_mem_cons.mpr ⟨lw_p70, List.forall_mem_cons.mpr ⟨lw_p71, List.forall_mem_cons.mpr ⟨lw_p72, List.forall_mem_cons.mpr ⟨lw_p73, List.forall_mem_cons.mpr ⟨lw_p74, List.forall_mem_cons.mpr ⟨lw_p75, List.forall_mem_cons.mpr ⟨lw_p76, List.forall_mem_cons.mpr ⟨lw_p77, List.forall_mem_cons.mpr ⟨lw_p78, List.forall_mem_cons.mpr ⟨lw_p79, fun _ h => absurd h List.not_mem_nil⟩⟩⟩⟩⟩⟩⟩⟩⟩⟩⟩⟩⟩⟩⟩⟩
theorem lw_p80 : lw_okq (⟨"EchoJarsModel", "isWith", "()Z"⟩, 48) := ⟨⟨by decide +kernel, by decide +kernel⟩, List.mem_of_getElem? (i := 1344) (by decide +kernel), List.mem_of_getElem? (i := 1658) (by decide +kernel), List.mem_of_getElem? (i := 1659) (by decide +kernel)⟩
theorem lw_p81 : lw_okq (⟨"EchoJarsModel", "isGives", "()Z"⟩, 48) := ⟨⟨by decide +kernel, by decide +kernel⟩, List.mem_of_getElem? (i := 1344) (by decide +kernel), List.mem_of_getElem? (i := 1662) (by decide +kernel), List.mem_of_getElem? (i := 1663) (by decide +kernel)⟩
theorem lw_p82 : lw_okq (⟨"EchoJarsModel", "isAny", "()Z"⟩, 48) := ⟨⟨by decide +kernel, by decide +kernel⟩, List.mem_of_getElem? (i := 1344) (by decide +kernel), List.mem_of_getElem? (i := 1666) (by decide +kernel), List.mem_of_getElem? (i := 1667) (by decide +kernel)⟩
theorem lw_p83 : lw_okq (⟨"EchoJarsModel", "isSame", "()Z"⟩, 48) := ⟨⟨by decide +kernel, by decide +kernel⟩, List.mem_of_getElem? (i := 1344) (by decide +kernel), List.mem_of_getElem? (i := 1670) (by decide +kernel), List.mem_of_getElem? (i := 1671) (by decide +kernel)⟩
theorem lw_p84 : lw_okq (⟨"EchoJarsModel", "isRest", "()Z"⟩, 48) := ⟨⟨by decide +kernel, by decide +kernel⟩, List.mem_of_getElem? (i := 1344) (by decide +kernel), List.mem_of_getElem? (i := 1674) (by decide +kernel), List.mem_of_getElem? (i := 1675) (by decide +kernel)⟩
theorem lw_p85 : lw_okq (⟨"EchoJarsModel", "isFirst", "()Z"⟩, 48) := ⟨⟨by decide +kernel, by decide +kernel⟩, List.mem_of_getElem? (i := 1344) (by decide +kernel), List.mem_of_getElem? (i := 1678) (by decide +kernel), List.mem_of_getElem? (i := 1679) (by decide +kernel)⟩
theorem lw_p86 : lw_okq (⟨"EchoJarsModel", "isSecond", "()Z"⟩, 48) := ⟨⟨by decide +kernel, by decide +kernel⟩, List.mem_of_getElem? (i := 1344) (by decide +kernel), List.mem_of_getElem? (i := 1682) (by decide +kernel), List.mem_of_getElem? (i := 1683) (by decide +kernel)⟩
theorem lw_p87 : lw_okq (⟨"EchoJarsModel", "wrong", "()V"⟩, 48) := ⟨⟨by decide +kernel, by decide +kernel⟩, List.mem_of_getElem? (i := 1344) (by decide +kernel), List.mem_of_getElem? (i := 1686) (by decide +kernel), List.mem_of_getElem? (i := 1687) (by decide +kernel)⟩
theorem lw_p88 : lw_okq (⟨"EchoJarsModel", "named", "(II)I"⟩, 48) := ⟨⟨by decide +kernel, by decide +kernel⟩, List.mem_of_getElem? (i := 1344) (by decide +kernel), List.mem_of_getElem? (i := 1690) (by decide +kernel), List.mem_of_getElem? (i := 1691) (by decide +kernel)⟩
theorem lw_p89 : lw_okq (⟨"EchoJarsModel", "readJar", "()V"⟩, 48) := ⟨⟨by decide +kernel, by decide +kernel⟩, List.mem_of_getElem? (i := 1344) (by decide +kernel), List.mem_of_getElem? (i := 1694) (by decide +kernel), List.mem_of_getElem? (i := 1695) (by decide +kernel)⟩
theorem lw_p90 : lw_okq (⟨"EchoJarsModel", "must", "(Z)V"⟩, 48) := ⟨⟨by decide +kernel, by decide +kernel⟩, List.mem_of_getElem? (i := 1344) (by decide +kernel), List.mem_of_getElem? (i := 1698) (by decide +kernel), List.mem_of_getElem? (i := 1699) (by decide +kernel)⟩
theorem lw_p91 : lw_okq (⟨"EchoJarsModel", "count", "(II)I"⟩, 48) := ⟨⟨by decide +kernel, by decide +kernel⟩, List.mem_of_getElem? (i := 1344) (by decide +kernel), List.mem_of_getElem? (i := 1702) (by decide +kernel), List.mem_of_getElem? (i := 1703) (by decide +kernel)⟩
theorem lw_p92 : lw_okq (⟨"EchoJarsModel", "told", "(ZIII)I"⟩, 48) := ⟨⟨by decide +kernel, by decide +kernel⟩, List.mem_of_getElem? (i := 1344) (by decide +kernel), List.mem_of_getElem? (i := 1709) (by decide +kernel), List.mem_of_getElem? (i := 1710) (by decide +kernel)⟩
theorem lw_p93 : lw_okq (⟨"EchoJarsModel", "readFill", "()V"⟩, 48) := ⟨⟨by decide +kernel, by decide +kernel⟩, List.mem_of_getElem? (i := 1344) (by decide +kernel), List.mem_of_getElem? (i := 1713) (by decide +kernel), List.mem_of_getElem? (i := 1714) (by decide +kernel)⟩
theorem lw_p94 : lw_okq (⟨"EchoJarsModel", "readTold", "(II)I"⟩, 48) := ⟨⟨by decide +kernel, by decide +kernel⟩, List.mem_of_getElem? (i := 1344) (by decide +kernel), List.mem_of_getElem? (i := 1717) (by decide +kernel), List.mem_of_getElem? (i := 1718) (by decide +kernel)⟩
theorem lw_p95 : lw_okq (⟨"EchoJarsModel", "isWell", "()Z"⟩, 48) := ⟨⟨by decide +kernel, by decide +kernel⟩, List.mem_of_getElem? (i := 1344) (by decide +kernel), List.mem_of_getElem? (i := 1722) (by decide +kernel), List.mem_of_getElem? (i := 1723) (by decide +kernel)⟩
def lw_privs_6 : List (MethodName × Nat) := [(⟨"EchoJarsModel", "isWith", "()Z"⟩, 48), (⟨"EchoJarsModel", "isGives", "()Z"⟩, 48), (⟨"EchoJarsModel", "isAny", "()Z"⟩, 48), (⟨"EchoJarsModel", "isSame", "()Z"⟩, 48), (⟨"EchoJarsModel", "isRest", "()Z"⟩, 48), (⟨"EchoJarsModel", "isFirst", "()Z"⟩, 48), (⟨"EchoJarsModel", "isSecond", "()Z"⟩, 48), (⟨"EchoJarsModel", "wrong", "()V"⟩, 48), (⟨"EchoJarsModel", "named", "(II)I"⟩, 48), (⟨"EchoJarsModel", "readJar", "()V"⟩, 48), (⟨"EchoJarsModel", "must", "(Z)V"⟩, 48), (⟨"EchoJarsModel", "count", "(II)I"⟩, 48), (⟨"EchoJarsModel", "told", "(ZIII)I"⟩, 48), (⟨"EchoJarsModel", "readFill", "()V"⟩, 48), (⟨"EchoJarsModel", "readTold", "(II)I"⟩, 48), (⟨"EchoJarsModel", "isWell", "()Z"⟩, 48)]
theorem lw_r6 : ∀ q ∈ lw_privs_6, lw_okq q := List.forall_mem_cons.mpr ⟨lw_p80, List.forall_mem_cons.mpr ⟨lw_p81, List.forall_mem_cons.mpr ⟨lw_p82, List.forall_mem_cons.mpr ⟨lw_p83, List.forall_mem_cons.mpr ⟨lw_p84, List.forall_mem_cons.mpr ⟨lw_p85, List.forall_mem_cons.mpr ⟨lw_p86, List.forall_mem_cons.mpr ⟨lw_p87, List.forall_mem_cons.mpr ⟨lw_p88, List.forall_mem_cons.mpr ⟨lw_p89, List.forall_mem_cons.mpr ⟨lw_p90, List.forall_mem_cons.mpr ⟨lw_p91, List.forall_mem_cons.mpr ⟨lw_p92, List.forall_mem_cons.mpr ⟨lw_p93, List.forall_mem_cons.mpr ⟨lw_p94, List.forall_mem_cons.mpr ⟨lw_p95, fun _ h => absurd h List.not_mem_nil⟩⟩⟩⟩⟩⟩⟩⟩⟩⟩⟩⟩⟩⟩⟩⟩
theorem lw_p96 : lw_okq (⟨"EchoJarsModel", "readRule", "()V"⟩, 48) := ⟨⟨by decide +kernel, by decide +kernel⟩, List.mem_of_getElem? (i := 1344) (by decide +kernel), List.mem_of_getElem? (i := 1730) (by decide +kernel), List.mem_of_getElem? (i := 1731) (by decide +kernel)⟩
theorem lw_p97 : lw_okq (⟨"EchoJarsModel", "readKind", "()I"⟩, 48) := ⟨⟨by decide +kernel, by decide +kernel⟩, List.mem_of_getElem? (i := 1344) (by decide +kernel), List.mem_of_getElem? (i := 1734) (by decide +kernel), List.mem_of_getElem? (i := 1735) (by decide +kernel)⟩
theorem lw_p98 : lw_okq (⟨"EchoJarsModel", "readWhat", "()I"⟩, 48) := ⟨⟨by decide +kernel, by decide +kernel⟩, List.mem_of_getElem? (i := 1344) (by decide +kernel), List.mem_of_getElem? (i := 1738) (by decide +kernel), List.mem_of_getElem? (i := 1739) (by decide +kernel)⟩
theorem lw_p99 : lw_okq (⟨"EchoJarsModel", "empties", "()I"⟩, 48) := ⟨⟨by decide +kernel, by decide +kernel⟩, List.mem_of_getElem? (i := 1344) (by decide +kernel), List.mem_of_getElem? (i := 1746) (by decide +kernel), List.mem_of_getElem? (i := 1747) (by decide +kernel)⟩
theorem lw_p100 : lw_okq (⟨"EchoJarsModel", "refuse", "(I)I"⟩, 48) := ⟨⟨by decide +kernel, by decide +kernel⟩, List.mem_of_getElem? (i := 1344) (by decide +kernel), List.mem_of_getElem? (i := 1750) (by decide +kernel), List.mem_of_getElem? (i := 1751) (by decide +kernel)⟩
theorem lw_p101 : lw_okq (⟨"EchoJarsModel", "isSoundAt", "(I)Z"⟩, 48) := ⟨⟨by decide +kernel, by decide +kernel⟩, List.mem_of_getElem? (i := 1344) (by decide +kernel), List.mem_of_getElem? (i := 1758) (by decide +kernel), List.mem_of_getElem? (i := 1759) (by decide +kernel)⟩
theorem lw_p102 : lw_okq (⟨"EchoJarsModel", "soundAt", "(II)I"⟩, 48) := ⟨⟨by decide +kernel, by decide +kernel⟩, List.mem_of_getElem? (i := 1344) (by decide +kernel), List.mem_of_getElem? (i := 1762) (by decide +kernel), List.mem_of_getElem? (i := 1763) (by decide +kernel)⟩
theorem lw_p103 : lw_okq (⟨"EchoJarsModel", "isJarAt", "(I)Z"⟩, 48) := ⟨⟨by decide +kernel, by decide +kernel⟩, List.mem_of_getElem? (i := 1344) (by decide +kernel), List.mem_of_getElem? (i := 1770) (by decide +kernel), List.mem_of_getElem? (i := 1771) (by decide +kernel)⟩
theorem lw_p104 : lw_okq (⟨"EchoJarsModel", "heardNow", "(I)I"⟩, 48) := ⟨⟨by decide +kernel, by decide +kernel⟩, List.mem_of_getElem? (i := 1344) (by decide +kernel), List.mem_of_getElem? (i := 1783) (by decide +kernel), List.mem_of_getElem? (i := 1784) (by decide +kernel)⟩
theorem lw_p105 : lw_okq (⟨"EchoJarsModel", "heardOn", "(II)I"⟩, 48) := ⟨⟨by decide +kernel, by decide +kernel⟩, List.mem_of_getElem? (i := 1344) (by decide +kernel), List.mem_of_getElem? (i := 1787) (by decide +kernel), List.mem_of_getElem? (i := 1788) (by decide +kernel)⟩
theorem lw_p106 : lw_okq (⟨"EchoJarsModel", "goneOf", "(III)I"⟩, 48) := ⟨⟨by decide +kernel, by decide +kernel⟩, List.mem_of_getElem? (i := 1344) (by decide +kernel), List.mem_of_getElem? (i := 1791) (by decide +kernel), List.mem_of_getElem? (i := 1792) (by decide +kernel)⟩
theorem lw_p107 : lw_okq (⟨"EchoJarsModel", "heardLetter", "(II)I"⟩, 48) := ⟨⟨by decide +kernel, by decide +kernel⟩, List.mem_of_getElem? (i := 1344) (by decide +kernel), List.mem_of_getElem? (i := 1799) (by decide +kernel), List.mem_of_getElem? (i := 1800) (by decide +kernel)⟩
theorem lw_p108 : lw_okq (⟨"EchoJarsModel", "headGone", "(II)I"⟩, 48) := ⟨⟨by decide +kernel, by decide +kernel⟩, List.mem_of_getElem? (i := 1344) (by decide +kernel), List.mem_of_getElem? (i := 1803) (by decide +kernel), List.mem_of_getElem? (i := 1804) (by decide +kernel)⟩
theorem lw_p109 : lw_okq (⟨"EchoJarsModel", "isTray", "(I)Z"⟩, 48) := ⟨⟨by decide +kernel, by decide +kernel⟩, List.mem_of_getElem? (i := 1344) (by decide +kernel), List.mem_of_getElem? (i := 1811) (by decide +kernel), List.mem_of_getElem? (i := 1812) (by decide +kernel)⟩
theorem lw_p110 : lw_okq (⟨"EchoJarsModel", "whyNoRow", "(II)I"⟩, 48) := ⟨⟨by decide +kernel, by decide +kernel⟩, List.mem_of_getElem? (i := 1344) (by decide +kernel), List.mem_of_getElem? (i := 1816) (by decide +kernel), List.mem_of_getElem? (i := 1817) (by decide +kernel)⟩
theorem lw_p111 : lw_okq (⟨"EchoJarsModel", "toTray", "(III)V"⟩, 48) := ⟨⟨by decide +kernel, by decide +kernel⟩, List.mem_of_getElem? (i := 1344) (by decide +kernel), List.mem_of_getElem? (i := 1820) (by decide +kernel), List.mem_of_getElem? (i := 1821) (by decide +kernel)⟩
def lw_privs_7 : List (MethodName × Nat) := [(⟨"EchoJarsModel", "readRule", "()V"⟩, 48), (⟨"EchoJarsModel", "readKind", "()I"⟩, 48), (⟨"EchoJarsModel", "readWhat", "()I"⟩, 48), (⟨"EchoJarsModel", "empties", "()I"⟩, 48), (⟨"EchoJarsModel", "refuse", "(I)I"⟩, 48), (⟨"EchoJarsModel", "isSoundAt", "(I)Z"⟩, 48), (⟨"EchoJarsModel", "soundAt", "(II)I"⟩, 48), (⟨"EchoJarsModel", "isJarAt", "(I)Z"⟩, 48), (⟨"EchoJarsModel", "heardNow", "(I)I"⟩, 48), (⟨"EchoJarsModel", "heardOn", "(II)I"⟩, 48), (⟨"EchoJarsModel", "goneOf", "(III)I"⟩, 48), (⟨"EchoJarsModel", "heardLetter", "(II)I"⟩, 48), (⟨"EchoJarsModel", "headGone", "(II)I"⟩, 48), (⟨"EchoJarsModel", "isTray", "(I)Z"⟩, 48), (⟨"EchoJarsModel", "whyNoRow", "(II)I"⟩, 48), (⟨"EchoJarsModel", "toTray", "(III)V"⟩, 48)]
theorem lw_r7 : ∀ q ∈ lw_privs_7, lw_okq q := List.forall_mem_cons.mpr ⟨lw_p96, List.forall_mem_cons.mpr ⟨lw_p97, List.forall_mem_cons.mpr ⟨lw_p98, List.forall_mem_cons.mpr ⟨lw_p99, List.forall_mem_cons.mpr ⟨lw_p100, List.forall_mem_cons.mpr ⟨lw_p101, List.forall_mem_cons.mpr ⟨lw_p102, List.forall_mem_cons.mpr ⟨lw_p103, List.forall_mem_cons.mpr ⟨lw_p104, List.forall_mem_cons.mpr ⟨lw_p105, List.forall_mem_cons.mpr ⟨lw_p106, List.forall_mem_cons.mpr ⟨lw_p107, List.forall_mem_cons.mpr ⟨lw_p108, List.forall_mem_cons.mpr ⟨lw_p109, List.forall_mem_cons.mpr ⟨lw_p110, List.forall_mem_cons.mpr ⟨lw_p111, fun _ h => absurd h List.not_mem_nil⟩⟩⟩⟩⟩⟩⟩⟩⟩⟩⟩⟩⟩⟩⟩⟩
theorem lw_p112 : lw_okq (⟨"EchoJarsModel", "heardOrRest", "(II)I"⟩, 48) := ⟨⟨by decide +kernel, by decide +kernel⟩, List.mem_of_getElem? (i := 1344) (by decide +kernel), List.mem_of_getElem? (i := 1847) (by decide +kernel), List.mem_of_getElem? (i := 1848) (by decide +kernel)⟩
theorem lw_p113 : lw_okq (⟨"EchoJarsModel", "mixOf", "(II)I"⟩, 48) := ⟨⟨by decide +kernel, by decide +kernel⟩, List.mem_of_getElem? (i := 1344) (by decide +kernel), List.mem_of_getElem? (i := 1851) (by decide +kernel), List.mem_of_getElem? (i := 1852) (by decide +kernel)⟩
theorem lw_p114 : lw_okq (⟨"EchoJarsModel", "othersOf", "(II)I"⟩, 48) := ⟨⟨by decide +kernel, by decide +kernel⟩, List.mem_of_getElem? (i := 1344) (by decide +kernel), List.mem_of_getElem? (i := 1867) (by decide +kernel), List.mem_of_getElem? (i := 1868) (by decide +kernel)⟩
theorem lw_p115 : lw_okq (⟨"EchoJarsModel", "soundOrRest", "(II)I"⟩, 48) := ⟨⟨by decide +kernel, by decide +kernel⟩, List.mem_of_getElem? (i := 1344) (by decide +kernel), List.mem_of_getElem? (i := 1876) (by decide +kernel), List.mem_of_getElem? (i := 1877) (by decide +kernel)⟩
theorem lw_p116 : lw_okq (⟨"EchoJarsModel", "whyNoLetters", "(III)I"⟩, 48) := ⟨⟨by decide +kernel, by decide +kernel⟩, List.mem_of_getElem? (i := 1344) (by decide +kernel), List.mem_of_getElem? (i := 1889) (by decide +kernel), List.mem_of_getElem? (i := 1890) (by decide +kernel)⟩
theorem lw_p117 : lw_okq (⟨"EchoJarsModel", "numberOf", "(II)J"⟩, 48) := ⟨⟨by decide +kernel, by decide +kernel⟩, List.mem_of_getElem? (i := 1344) (by decide +kernel), List.mem_of_getElem? (i := 1893) (by decide +kernel), List.mem_of_getElem? (i := 1894) (by decide +kernel)⟩
theorem lw_p118 : lw_okq (⟨"EchoJarsModel", "areJars", "(I)Z"⟩, 48) := ⟨⟨by decide +kernel, by decide +kernel⟩, List.mem_of_getElem? (i := 1344) (by decide +kernel), List.mem_of_getElem? (i := 1906) (by decide +kernel), List.mem_of_getElem? (i := 1907) (by decide +kernel)⟩
theorem lw_p119 : lw_okq (⟨"EchoJarsModel", "fitsOf", "(I)I"⟩, 48) := ⟨⟨by decide +kernel, by decide +kernel⟩, List.mem_of_getElem? (i := 1344) (by decide +kernel), List.mem_of_getElem? (i := 1910) (by decide +kernel), List.mem_of_getElem? (i := 1911) (by decide +kernel)⟩
theorem lw_p120 : lw_okq (⟨"EchoJarsModel", "placesIn", "(II)I"⟩, 48) := ⟨⟨by decide +kernel, by decide +kernel⟩, List.mem_of_getElem? (i := 1344) (by decide +kernel), List.mem_of_getElem? (i := 1917) (by decide +kernel), List.mem_of_getElem? (i := 1918) (by decide +kernel)⟩
theorem lw_p121 : lw_okq (⟨"EchoJarsModel", "standsAt", "(IIII)Z"⟩, 48) := ⟨⟨by decide +kernel, by decide +kernel⟩, List.mem_of_getElem? (i := 1344) (by decide +kernel), List.mem_of_getElem? (i := 1921) (by decide +kernel), List.mem_of_getElem? (i := 1922) (by decide +kernel)⟩
theorem lw_p122 : lw_okq (⟨"EchoJarsModel", "lapsOf", "(II)I"⟩, 48) := ⟨⟨by decide +kernel, by decide +kernel⟩, List.mem_of_getElem? (i := 1344) (by decide +kernel), List.mem_of_getElem? (i := 1937) (by decide +kernel), List.mem_of_getElem? (i := 1938) (by decide +kernel)⟩
theorem lw_p123 : lw_okq (⟨"EchoJarsModel", "chainFrom", "(III)V"⟩, 48) := ⟨⟨by decide +kernel, by decide +kernel⟩, List.mem_of_getElem? (i := 1344) (by decide +kernel), List.mem_of_getElem? (i := 1959) (by decide +kernel), List.mem_of_getElem? (i := 1960) (by decide +kernel)⟩
theorem lw_p124 : lw_okq (⟨"EchoJarsModel", "isOwn", "(II)Z"⟩, 48) := ⟨⟨by decide +kernel, by decide +kernel⟩, List.mem_of_getElem? (i := 1344) (by decide +kernel), List.mem_of_getElem? (i := 1978) (by decide +kernel), List.mem_of_getElem? (i := 1979) (by decide +kernel)⟩
theorem lw_p125 : lw_okq (⟨"EchoJarsModel", "standsIn", "(II)Z"⟩, 48) := ⟨⟨by decide +kernel, by decide +kernel⟩, List.mem_of_getElem? (i := 1344) (by decide +kernel), List.mem_of_getElem? (i := 1982) (by decide +kernel), List.mem_of_getElem? (i := 1983) (by decide +kernel)⟩
theorem lw_p126 : lw_okq (⟨"EchoJarsModel", "mergeFrom", "(III)V"⟩, 48) := ⟨⟨by decide +kernel, by decide +kernel⟩, List.mem_of_getElem? (i := 1344) (by decide +kernel), List.mem_of_getElem? (i := 1986) (by decide +kernel), List.mem_of_getElem? (i := 1987) (by decide +kernel)⟩
theorem lw_p127 : lw_okq (⟨"EchoJarsModel", "isLess", "(I)Z"⟩, 48) := ⟨⟨by decide +kernel, by decide +kernel⟩, List.mem_of_getElem? (i := 1344) (by decide +kernel), List.mem_of_getElem? (i := 1990) (by decide +kernel), List.mem_of_getElem? (i := 1991) (by decide +kernel)⟩
def lw_privs_8 : List (MethodName × Nat) := [(⟨"EchoJarsModel", "heardOrRest", "(II)I"⟩, 48), (⟨"EchoJarsModel", "mixOf", "(II)I"⟩, 48), (⟨"EchoJarsModel", "othersOf", "(II)I"⟩, 48), (⟨"EchoJarsModel", "soundOrRest", "(II)I"⟩, 48), (⟨"EchoJarsModel", "whyNoLetters", "(III)I"⟩, 48), (⟨"EchoJarsModel", "numberOf", "(II)J"⟩, 48), (⟨"EchoJarsModel", "areJars", "(I)Z"⟩, 48), (⟨"EchoJarsModel", "fitsOf", "(I)I"⟩, 48), (⟨"EchoJarsModel", "placesIn", "(II)I"⟩, 48), (⟨"EchoJarsModel", "standsAt", "(IIII)Z"⟩, 48), (⟨"EchoJarsModel", "lapsOf", "(II)I"⟩, 48), (⟨"EchoJarsModel", "chainFrom", "(III)V"⟩, 48), (⟨"EchoJarsModel", "isOwn", "(II)Z"⟩, 48), (⟨"EchoJarsModel", "standsIn", "(II)Z"⟩, 48), (⟨"EchoJarsModel", "mergeFrom", "(III)V"⟩, 48), (⟨"EchoJarsModel", "isLess", "(I)Z"⟩, 48)]
theorem lw_r8 : ∀ q ∈ lw_privs_8, lw_okq q := List.forall_mem_cons.mpr ⟨lw_p112, List.forall_mem_cons.mpr ⟨lw_p113, List.forall_mem_cons.mpr ⟨lw_p114, List.forall_mem_cons.mpr ⟨lw_p115, List.forall_mem_cons.mpr ⟨lw_p116, List.forall_mem_cons.mpr ⟨lw_p117, List.forall_mem_cons.mpr ⟨lw_p118, List.forall_mem_cons.mpr ⟨lw_p119, List.forall_mem_cons.mpr ⟨lw_p120, List.forall_mem_cons.mpr ⟨lw_p121, List.forall_mem_cons.mpr ⟨lw_p122, List.forall_mem_cons.mpr ⟨lw_p123, List.forall_mem_cons.mpr ⟨lw_p124, List.forall_mem_cons.mpr ⟨lw_p125, List.forall_mem_cons.mpr ⟨lw_p126, List.forall_mem_cons.mpr ⟨lw_p127, fun _ h => absurd h List.not_mem_nil⟩⟩⟩⟩⟩⟩⟩⟩⟩⟩⟩⟩⟩⟩⟩⟩
theorem lw_p128 : lw_okq (⟨"EchoJarsModel", "keepsOf", "(II)I"⟩, 48) := ⟨⟨by decide +kernel, by decide +kernel⟩, List.mem_of_getElem? (i := 1344) (by decide +kernel), List.mem_of_getElem? (i := 2002) (by decide +kernel), List.mem_of_getElem? (i := 2003) (by decide +kernel)⟩
theorem lw_p129 : lw_okq (⟨"EchoJarsModel", "keptBy", "(II)I"⟩, 48) := ⟨⟨by decide +kernel, by decide +kernel⟩, List.mem_of_getElem? (i := 1344) (by decide +kernel), List.mem_of_getElem? (i := 2010) (by decide +kernel), List.mem_of_getElem? (i := 2011) (by decide +kernel)⟩
theorem lw_p130 : lw_okq (⟨"EchoJarsModel", "costOf", "(I)I"⟩, 48) := ⟨⟨by decide +kernel, by decide +kernel⟩, List.mem_of_getElem? (i := 1344) (by decide +kernel), List.mem_of_getElem? (i := 2018) (by decide +kernel), List.mem_of_getElem? (i := 2019) (by decide +kernel)⟩
theorem lw_p131 : lw_okq (⟨"EchoJarsModel", "worthOn", "(II)I"⟩, 48) := ⟨⟨by decide +kernel, by decide +kernel⟩, List.mem_of_getElem? (i := 1344) (by decide +kernel), List.mem_of_getElem? (i := 2030) (by decide +kernel), List.mem_of_getElem? (i := 2031) (by decide +kernel)⟩
theorem lw_p132 : lw_okq (⟨"EchoJarsModel", "isHeard", "(III)Z"⟩, 48) := ⟨⟨by decide +kernel, by decide +kernel⟩, List.mem_of_getElem? (i := 1344) (by decide +kernel), List.mem_of_getElem? (i := 2042) (by decide +kernel), List.mem_of_getElem? (i := 2043) (by decide +kernel)⟩
theorem lw_p133 : lw_okq (⟨"EchoJarsModel", "wholeBehind", "(II)I"⟩, 48) := ⟨⟨by decide +kernel, by decide +kernel⟩, List.mem_of_getElem? (i := 1344) (by decide +kernel), List.mem_of_getElem? (i := 2054) (by decide +kernel), List.mem_of_getElem? (i := 2055) (by decide +kernel)⟩
theorem lw_p134 : lw_okq (⟨"EchoJarsModel", "draw", "()I"⟩, 48) := ⟨⟨by decide +kernel, by decide +kernel⟩, List.mem_of_getElem? (i := 1344) (by decide +kernel), List.mem_of_getElem? (i := 2058) (by decide +kernel), List.mem_of_getElem? (i := 2059) (by decide +kernel)⟩
theorem lw_p135 : lw_okq (⟨"EchoJarsModel", "fraction", "(JJ)Z"⟩, 48) := ⟨⟨by decide +kernel, by decide +kernel⟩, List.mem_of_getElem? (i := 1344) (by decide +kernel), List.mem_of_getElem? (i := 2072) (by decide +kernel), List.mem_of_getElem? (i := 2073) (by decide +kernel)⟩
theorem lw_p136 : lw_okq (⟨"EchoJarsModel", "reads", "(IIII)I"⟩, 48) := ⟨⟨by decide +kernel, by decide +kernel⟩, List.mem_of_getElem? (i := 1344) (by decide +kernel), List.mem_of_getElem? (i := 2092) (by decide +kernel), List.mem_of_getElem? (i := 2093) (by decide +kernel)⟩
theorem lw_p137 : lw_okq (⟨"EchoJarsModel", "copy", "(II)V"⟩, 48) := ⟨⟨by decide +kernel, by decide +kernel⟩, List.mem_of_getElem? (i := 1344) (by decide +kernel), List.mem_of_getElem? (i := 2108) (by decide +kernel), List.mem_of_getElem? (i := 2109) (by decide +kernel)⟩
def lw_privs_9 : List (MethodName × Nat) := [(⟨"EchoJarsModel", "keepsOf", "(II)I"⟩, 48), (⟨"EchoJarsModel", "keptBy", "(II)I"⟩, 48), (⟨"EchoJarsModel", "costOf", "(I)I"⟩, 48), (⟨"EchoJarsModel", "worthOn", "(II)I"⟩, 48), (⟨"EchoJarsModel", "isHeard", "(III)Z"⟩, 48), (⟨"EchoJarsModel", "wholeBehind", "(II)I"⟩, 48), (⟨"EchoJarsModel", "draw", "()I"⟩, 48), (⟨"EchoJarsModel", "fraction", "(JJ)Z"⟩, 48), (⟨"EchoJarsModel", "reads", "(IIII)I"⟩, 48), (⟨"EchoJarsModel", "copy", "(II)V"⟩, 48)]
theorem lw_r9 : ∀ q ∈ lw_privs_9, lw_okq q := List.forall_mem_cons.mpr ⟨lw_p128, List.forall_mem_cons.mpr ⟨lw_p129, List.forall_mem_cons.mpr ⟨lw_p130, List.forall_mem_cons.mpr ⟨lw_p131, List.forall_mem_cons.mpr ⟨lw_p132, List.forall_mem_cons.mpr ⟨lw_p133, List.forall_mem_cons.mpr ⟨lw_p134, List.forall_mem_cons.mpr ⟨lw_p135, List.forall_mem_cons.mpr ⟨lw_p136, List.forall_mem_cons.mpr ⟨lw_p137, fun _ h => absurd h List.not_mem_nil⟩⟩⟩⟩⟩⟩⟩⟩⟩⟩
def lw_privs : List (MethodName × Nat) := lw_privs_1 ++ (lw_privs_2 ++ (lw_privs_3 ++ (lw_privs_4 ++ (lw_privs_5 ++ (lw_privs_6 ++ (lw_privs_7 ++ (lw_privs_8 ++ (lw_privs_9))))))))
def lw_tbl : List Cond := k2_sels lw_privs ++ tables_1
theorem lw_privs_ok : ∀ q ∈ lw_privs, lw_okq q := by
  show ∀ q ∈ lw_privs_1 ++ (lw_privs_2 ++ (lw_privs_3 ++ (lw_privs_4 ++ (lw_privs_5 ++ (lw_privs_6 ++ (lw_privs_7 ++ (lw_privs_8 ++ (lw_privs_9)))))))), lw_okq q
  exact List.forall_mem_append.mpr ⟨lw_r1, List.forall_mem_append.mpr ⟨lw_r2, List.forall_mem_append.mpr ⟨lw_r3, List.forall_mem_append.mpr ⟨lw_r4, List.forall_mem_append.mpr ⟨lw_r5, List.forall_mem_append.mpr ⟨lw_r6, List.forall_mem_append.mpr ⟨lw_r7, List.forall_mem_append.mpr ⟨lw_r8, lw_r9⟩⟩⟩⟩⟩⟩⟩⟩

theorem goodIn_r {big : List Cond} (ws : List Cond) (ps : List Nat) (hp : ws = ps.filterMap (fun i => big[i]?)) (h : ws.all goodWord = true) : GoodIn big ws := by
  intro w hw
  have h1 := List.all_eq_true.mp h w hw
  rw [hp] at hw
  obtain ⟨i, -, hi⟩ := List.mem_filterMap.mp hw
  have hm : w ∈ big := by first | exact List.mem_of_getElem? hi | exact List.getElem?_mem hi
  exact ⟨hm, good_of_word h1⟩
def RX0 : String := "EchoJars$Jar"
def TX0 : u_T := fun k => match k with
  | 0 => ("EchoJars$Jar", "size", "I", false)
  | 1 => ("EchoJars$Jar", "leaks", "I", false)
  | 2 => ("EchoJars$Jar", "side", "I", false)
  | 3 => ("EchoJars$Jar", "costs", "I", false)
  | 4 => ("EchoJars$Jar", "worth", "I", false)
  | 5 => ("EchoJars$Jar", "breaks", "I", false)
  | 6 => ("EchoJars$Jar", "filled", "I", false)
  | 7 => ("EchoJars$Jar", "filledOn", "I", false)
  | 8 => ("EchoJars$Jar", "sound", "I", false)
  | _ => ("EchoJars$Jar", "from", "I", false)
def tyX0 : Nat → FieldType := fun k => match k with
  | 0 => .int
  | 1 => .int
  | 2 => .int
  | 3 => .int
  | 4 => .int
  | 5 => .int
  | 6 => .int
  | 7 => .int
  | 8 => .int
  | _ => .int
abbrev wsX00 : List Cond := u_ws RX0 TX0 10
theorem nmX0 : ∀ a, a < 10 → ∀ b, b < 10 → a ≠ b → (TX0 a).2.1 ≠ (TX0 b).2.1 := by decide +kernel
theorem tyX0_ok : ∀ k, k < 10 → parseFieldDescriptor (TX0 k).2.2.1 = some (tyX0 k) := by decide +kernel
abbrev cX0_init : ByteArray := prog_2_method_1_code
def yX0_init : MethodName := ⟨RX0, "<init>", "()V"⟩
abbrev cX0_isEmpty : ByteArray := prog_2_method_2_code
def yX0_isEmpty : MethodName := ⟨RX0, "isEmpty", "()Z"⟩
abbrev cX0_told : ByteArray := prog_2_method_3_code
def yX0_told : MethodName := ⟨RX0, "told", "(I)I"⟩
abbrev cX0_goneAfter : ByteArray := prog_2_method_4_code
def yX0_goneAfter : MethodName := ⟨RX0, "goneAfter", "(I)I"⟩
abbrev cX0_lostBy : ByteArray := prog_2_method_5_code
def yX0_lostBy : MethodName := ⟨RX0, "lostBy", "(I)I"⟩
abbrev cX0_leftOn : ByteArray := prog_2_method_6_code
def yX0_leftOn : MethodName := ⟨RX0, "leftOn", "(I)I"⟩
abbrev cX0_fromHead : ByteArray := prog_2_method_7_code
def yX0_fromHead : MethodName := ⟨RX0, "fromHead", "(I)I"⟩
abbrev cX0_keptAfter : ByteArray := prog_2_method_8_code
def yX0_keptAfter : MethodName := ⟨RX0, "keptAfter", "(I)I"⟩
abbrev cX0_firstDayWith : ByteArray := prog_2_method_9_code
def yX0_firstDayWith : MethodName := ⟨RX0, "firstDayWith", "(I)I"⟩
abbrev cX0_lastDayWith : ByteArray := prog_2_method_10_code
def yX0_lastDayWith : MethodName := ⟨RX0, "lastDayWith", "(I)I"⟩
def RX1 : String := "EchoJars$Law"
def TX1 : u_T := fun k => match k with
  | 0 => ("EchoJars$Law", "firsts", "[I", true)
  | 1 => ("EchoJars$Law", "seconds", "[I", true)
  | 2 => ("EchoJars$Law", "gifts", "[I", true)
  | _ => ("EchoJars$Law", "ruleCount", "I", false)
def tyX1 : Nat → FieldType := fun k => match k with
  | 0 => .array .int
  | 1 => .array .int
  | 2 => .array .int
  | _ => .int
abbrev wsX10 : List Cond := u_ws RX1 TX1 4
theorem nmX1 : ∀ a, a < 4 → ∀ b, b < 4 → a ≠ b → (TX1 a).2.1 ≠ (TX1 b).2.1 := by decide +kernel
theorem tyX1_ok : ∀ k, k < 4 → parseFieldDescriptor (TX1 k).2.2.1 = some (tyX1 k) := by decide +kernel
abbrev cX1_init : ByteArray := prog_3_method_1_code
def yX1_init : MethodName := ⟨RX1, "<init>", "()V"⟩
abbrev cX1_add : ByteArray := prog_3_method_2_code
def yX1_add : MethodName := ⟨RX1, "add", "(III)V"⟩
abbrev cX1_mix : ByteArray := prog_3_method_3_code
def yX1_mix : MethodName := ⟨RX1, "mix", "(II)I"⟩
abbrev cX1_suits : ByteArray := prog_3_method_4_code
def yX1_suits : MethodName := ⟨RX1, "suits", "(II)Z"⟩
abbrev cX1_given : ByteArray := prog_3_method_5_code
def yX1_given : MethodName := ⟨RX1, "given", "(III)I"⟩
abbrev cX1_partners : ByteArray := prog_3_method_6_code
def yX1_partners : MethodName := ⟨RX1, "partners", "(II)I"⟩
def RX2 : String := "EchoJars$LawReader"
def TX2 : u_T := fun k => match k with
  | _ => ("EchoJars$LawReader", "tape", "LEchoJars$Tape;", true)
def tyX2 : Nat → FieldType := fun k => match k with
  | _ => .object "EchoJars$Tape"
abbrev wsX20 : List Cond := u_ws RX2 TX2 1
theorem nmX2 : ∀ a, a < 1 → ∀ b, b < 1 → a ≠ b → (TX2 a).2.1 ≠ (TX2 b).2.1 := by decide +kernel
theorem tyX2_ok : ∀ k, k < 1 → parseFieldDescriptor (TX2 k).2.2.1 = some (tyX2 k) := by decide +kernel
abbrev cX2_init : ByteArray := prog_4_method_1_code
def yX2_init : MethodName := ⟨RX2, "<init>", "(LEchoJars$Tape;)V"⟩
abbrev cX2_readLaw : ByteArray := prog_4_method_2_code
def yX2_readLaw : MethodName := ⟨RX2, "readLaw", "(I)LEchoJars$Law;"⟩
abbrev cX2_readRule : ByteArray := prog_4_method_3_code
def yX2_readRule : MethodName := ⟨RX2, "readRule", "(LEchoJars$Law;)V"⟩
abbrev cX2_takeKind : ByteArray := prog_4_method_4_code
def yX2_takeKind : MethodName := ⟨RX2, "takeKind", "()I"⟩
abbrev cX2_takeGift : ByteArray := prog_4_method_5_code
def yX2_takeGift : MethodName := ⟨RX2, "takeGift", "()I"⟩
abbrev cX2_takeLetterOrRest : ByteArray := prog_4_method_6_code
def yX2_takeLetterOrRest : MethodName := ⟨RX2, "takeLetterOrRest", "()I"⟩
def RX3 : String := "EchoJars$Mark"
def TX3 : u_T := fun k => match k with
  | 0 => ("EchoJars$Mark", "stock", "LEchoJars$Shop;", false)
  | 1 => ("EchoJars$Mark", "rules", "LEchoJars$Law;", false)
  | _ => ("EchoJars$Mark", "today", "I", false)
def tyX3 : Nat → FieldType := fun k => match k with
  | 0 => .object "EchoJars$Shop"
  | 1 => .object "EchoJars$Law"
  | _ => .int
abbrev wsX30 : List Cond := u_ws RX3 TX3 3
theorem nmX3 : ∀ a, a < 3 → ∀ b, b < 3 → a ≠ b → (TX3 a).2.1 ≠ (TX3 b).2.1 := by decide +kernel
theorem tyX3_ok : ∀ k, k < 3 → parseFieldDescriptor (TX3 k).2.2.1 = some (tyX3 k) := by decide +kernel
abbrev cX3_init : ByteArray := prog_5_method_1_code
def yX3_init : MethodName := ⟨RX3, "<init>", "(LEchoJars$Shop;LEchoJars$Law;)V"⟩
def RX4 : String := "EchoJars$Merger"
def TX4 : u_T := fun k => match k with
  | 0 => ("EchoJars$Merger", "parts", "[LEchoJars$Row;", true)
  | 1 => ("EchoJars$Merger", "overlaps", "[I", true)
  | 2 => ("EchoJars$Merger", "rests", "[I", true)
  | 3 => ("EchoJars$Merger", "isOpen", "[Z", true)
  | 4 => ("EchoJars$Merger", "open", "[I", false)
  | 5 => ("EchoJars$Merger", "spare", "[I", false)
  | 6 => ("EchoJars$Merger", "openCount", "I", false)
  | 7 => ("EchoJars$Merger", "count", "I", false)
  | _ => ("EchoJars$Merger", "best", "LEchoJars$Row;", true)
def tyX4 : Nat → FieldType := fun k => match k with
  | 0 => .array (.object "EchoJars$Row")
  | 1 => .array .int
  | 2 => .array .int
  | 3 => .array .boolean
  | 4 => .array .int
  | 5 => .array .int
  | 6 => .int
  | 7 => .int
  | _ => .object "EchoJars$Row"
abbrev wsX40 : List Cond := u_ws RX4 TX4 9
theorem nmX4 : ∀ a, a < 9 → ∀ b, b < 9 → a ≠ b → (TX4 a).2.1 ≠ (TX4 b).2.1 := by decide +kernel
theorem tyX4_ok : ∀ k, k < 9 → parseFieldDescriptor (TX4 k).2.2.1 = some (tyX4 k) := by decide +kernel
abbrev cX4_init : ByteArray := prog_6_method_1_code
def yX4_init : MethodName := ⟨RX4, "<init>", "()V"⟩
abbrev cX4_clear : ByteArray := prog_6_method_2_code
def yX4_clear : MethodName := ⟨RX4, "clear", "()V"⟩
abbrev cX4_add : ByteArray := prog_6_method_3_code
def yX4_add : MethodName := ⟨RX4, "add", "(LEchoJars$Row;)V"⟩
abbrev cX4_mergeAll : ByteArray := prog_6_method_4_code
def yX4_mergeAll : MethodName := ⟨RX4, "mergeAll", "()V"⟩
abbrev cX4_measureOverlaps : ByteArray := prog_6_method_5_code
def yX4_measureOverlaps : MethodName := ⟨RX4, "measureOverlaps", "()V"⟩
abbrev cX4_measureRests : ByteArray := prog_6_method_6_code
def yX4_measureRests : MethodName := ⟨RX4, "measureRests", "()V"⟩
abbrev cX4_restWith : ByteArray := prog_6_method_7_code
def yX4_restWith : MethodName := ⟨RX4, "restWith", "(III)I"⟩
abbrev cX4_stateWith : ByteArray := prog_6_method_8_code
def yX4_stateWith : MethodName := ⟨RX4, "stateWith", "(II)I"⟩
abbrev cX4_openFirsts : ByteArray := prog_6_method_9_code
def yX4_openFirsts : MethodName := ⟨RX4, "openFirsts", "()I"⟩
abbrev cX4_addOpen : ByteArray := prog_6_method_10_code
def yX4_addOpen : MethodName := ⟨RX4, "addOpen", "(I)V"⟩
abbrev cX4_placeIn : ByteArray := prog_6_method_11_code
def yX4_placeIn : MethodName := ⟨RX4, "placeIn", "(II)I"⟩
abbrev cX4_letterOf : ByteArray := prog_6_method_12_code
def yX4_letterOf : MethodName := ⟨RX4, "letterOf", "(II)I"⟩
abbrev cX4_leastLetter : ByteArray := prog_6_method_13_code
def yX4_leastLetter : MethodName := ⟨RX4, "leastLetter", "(I)I"⟩
abbrev cX4_follow : ByteArray := prog_6_method_14_code
def yX4_follow : MethodName := ⟨RX4, "follow", "(II)V"⟩
abbrev cX4_addNexts : ByteArray := prog_6_method_15_code
def yX4_addNexts : MethodName := ⟨RX4, "addNexts", "(I)V"⟩
def RX5 : String := "EchoJars$Planner"
def TX5 : u_T := fun k => match k with
  | 0 => ("EchoJars$Planner", "links", "[I", true)
  | 1 => ("EchoJars$Planner", "lengths", "[I", true)
  | 2 => ("EchoJars$Planner", "gains", "[I", true)
  | 3 => ("EchoJars$Planner", "chainOrder", "LEchoJars$Row;", true)
  | _ => ("EchoJars$Planner", "shelfOrder", "LEchoJars$Row;", true)
def tyX5 : Nat → FieldType := fun k => match k with
  | 0 => .array .int
  | 1 => .array .int
  | 2 => .array .int
  | 3 => .object "EchoJars$Row"
  | _ => .object "EchoJars$Row"
abbrev wsX50 : List Cond := u_ws RX5 TX5 5
theorem nmX5 : ∀ a, a < 5 → ∀ b, b < 5 → a ≠ b → (TX5 a).2.1 ≠ (TX5 b).2.1 := by decide +kernel
theorem tyX5_ok : ∀ k, k < 5 → parseFieldDescriptor (TX5 k).2.2.1 = some (tyX5 k) := by decide +kernel
abbrev cX5_init : ByteArray := prog_7_method_1_code
def yX5_init : MethodName := ⟨RX5, "<init>", "()V"⟩
abbrev cX5_link : ByteArray := prog_7_method_2_code
def yX5_link : MethodName := ⟨RX5, "link", "(II)V"⟩
abbrev cX5_findChain : ByteArray := prog_7_method_3_code
def yX5_findChain : MethodName := ⟨RX5, "findChain", "(I)V"⟩
abbrev cX5_bestLink : ByteArray := prog_7_method_4_code
def yX5_bestLink : MethodName := ⟨RX5, "bestLink", "(II)I"⟩
abbrev cX5_lengthWith : ByteArray := prog_7_method_5_code
def yX5_lengthWith : MethodName := ⟨RX5, "lengthWith", "(II)I"⟩
abbrev cX5_findShelf : ByteArray := prog_7_method_6_code
def yX5_findShelf : MethodName := ⟨RX5, "findShelf", "(LEchoJars$Shop;I)I"⟩
abbrev cX5_bestOpening : ByteArray := prog_7_method_7_code
def yX5_bestOpening : MethodName := ⟨RX5, "bestOpening", "(LEchoJars$Shop;III)I"⟩
abbrev cX5_gainWith : ByteArray := prog_7_method_8_code
def yX5_gainWith : MethodName := ⟨RX5, "gainWith", "(LEchoJars$Shop;III)I"⟩
def RX6 : String := "EchoJars$Row"
def TX6 : u_T := fun k => match k with
  | 0 => ("EchoJars$Row", "numbers", "[I", false)
  | 1 => ("EchoJars$Row", "start", "I", false)
  | _ => ("EchoJars$Row", "size", "I", false)
def tyX6 : Nat → FieldType := fun k => match k with
  | 0 => .array .int
  | 1 => .int
  | _ => .int
abbrev wsX60 : List Cond := u_ws RX6 TX6 3
theorem nmX6 : ∀ a, a < 3 → ∀ b, b < 3 → a ≠ b → (TX6 a).2.1 ≠ (TX6 b).2.1 := by decide +kernel
theorem tyX6_ok : ∀ k, k < 3 → parseFieldDescriptor (TX6 k).2.2.1 = some (tyX6 k) := by decide +kernel
abbrev cX6_init : ByteArray := prog_8_method_1_code
def yX6_init : MethodName := ⟨RX6, "<init>", "([I)V"⟩
abbrev cX6_show : ByteArray := prog_8_method_2_code
def yX6_show : MethodName := ⟨RX6, "show", "([III)V"⟩
abbrev cX6_clear : ByteArray := prog_8_method_3_code
def yX6_clear : MethodName := ⟨RX6, "clear", "()V"⟩
abbrev cX6_add : ByteArray := prog_8_method_4_code
def yX6_add : MethodName := ⟨RX6, "add", "(I)V"⟩
abbrev cX6_has : ByteArray := prog_8_method_5_code
def yX6_has : MethodName := ⟨RX6, "has", "(I)Z"⟩
abbrev cX6_at : ByteArray := prog_8_method_6_code
def yX6_at : MethodName := ⟨RX6, "at", "(I)I"⟩
abbrev cX6_countLetters : ByteArray := prog_8_method_7_code
def yX6_countLetters : MethodName := ⟨RX6, "countLetters", "()I"⟩
abbrev cX6_letterSet : ByteArray := prog_8_method_8_code
def yX6_letterSet : MethodName := ⟨RX6, "letterSet", "()I"⟩
abbrev cX6_standsAt : ByteArray := prog_8_method_9_code
def yX6_standsAt : MethodName := ⟨RX6, "standsAt", "(LEchoJars$Row;I)Z"⟩
abbrev cX6_timesIn : ByteArray := prog_8_method_10_code
def yX6_timesIn : MethodName := ⟨RX6, "timesIn", "(LEchoJars$Row;)I"⟩
abbrev cX6_standsIn : ByteArray := prog_8_method_11_code
def yX6_standsIn : MethodName := ⟨RX6, "standsIn", "(LEchoJars$Row;)Z"⟩
abbrev cX6_overlap : ByteArray := prog_8_method_12_code
def yX6_overlap : MethodName := ⟨RX6, "overlap", "(LEchoJars$Row;)I"⟩
abbrev cX6_tailIsHead : ByteArray := prog_8_method_13_code
def yX6_tailIsHead : MethodName := ⟨RX6, "tailIsHead", "(LEchoJars$Row;I)Z"⟩
abbrev cX6_stretchIn : ByteArray := prog_8_method_14_code
def yX6_stretchIn : MethodName := ⟨RX6, "stretchIn", "(LEchoJars$Row;I)I"⟩
abbrev cX6_editsTo : ByteArray := prog_8_method_15_code
def yX6_editsTo : MethodName := ⟨RX6, "editsTo", "(LEchoJars$Row;[I)I"⟩
def RX7 : String := "EchoJars$Shop"
def TX7 : u_T := fun k => match k with
  | 0 => ("EchoJars$Shop", "sounds", "[LEchoJars$Row;", true)
  | 1 => ("EchoJars$Shop", "jars", "[LEchoJars$Jar;", true)
  | 2 => ("EchoJars$Shop", "soundCount", "I", false)
  | _ => ("EchoJars$Shop", "jarCount", "I", false)
def tyX7 : Nat → FieldType := fun k => match k with
  | 0 => .array (.object "EchoJars$Row")
  | 1 => .array (.object "EchoJars$Jar")
  | 2 => .int
  | _ => .int
abbrev wsX70 : List Cond := u_ws RX7 TX7 4
theorem nmX7 : ∀ a, a < 4 → ∀ b, b < 4 → a ≠ b → (TX7 a).2.1 ≠ (TX7 b).2.1 := by decide +kernel
theorem tyX7_ok : ∀ k, k < 4 → parseFieldDescriptor (TX7 k).2.2.1 = some (tyX7 k) := by decide +kernel
abbrev cX7_init : ByteArray := prog_9_method_1_code
def yX7_init : MethodName := ⟨RX7, "<init>", "()V"⟩
abbrev cX7_allSounds : ByteArray := prog_9_method_2_code
def yX7_allSounds : MethodName := ⟨RX7, "allSounds", "()I"⟩
abbrev cX7_allJars : ByteArray := prog_9_method_3_code
def yX7_allJars : MethodName := ⟨RX7, "allJars", "()I"⟩
abbrev cX7_filledJars : ByteArray := prog_9_method_4_code
def yX7_filledJars : MethodName := ⟨RX7, "filledJars", "()I"⟩
abbrev cX7_listen : ByteArray := prog_9_method_5_code
def yX7_listen : MethodName := ⟨RX7, "listen", "(LEchoJars$Row;LEchoJars$Jar;I)V"⟩
abbrev cX7_lettersOn : ByteArray := prog_9_method_6_code
def yX7_lettersOn : MethodName := ⟨RX7, "lettersOn", "(I)I"⟩
abbrev cX7_loudestDay : ByteArray := prog_9_method_7_code
def yX7_loudestDay : MethodName := ⟨RX7, "loudestDay", "(II)I"⟩
abbrev cX7_soundsWith : ByteArray := prog_9_method_8_code
def yX7_soundsWith : MethodName := ⟨RX7, "soundsWith", "(LEchoJars$Row;)I"⟩
abbrev cX7_timesInAll : ByteArray := prog_9_method_9_code
def yX7_timesInAll : MethodName := ⟨RX7, "timesInAll", "(LEchoJars$Row;)I"⟩
abbrev cX7_priceOf : ByteArray := prog_9_method_10_code
def yX7_priceOf : MethodName := ⟨RX7, "priceOf", "(IZ)I"⟩
abbrev cX7_keptBy : ByteArray := prog_9_method_11_code
def yX7_keptBy : MethodName := ⟨RX7, "keptBy", "(II)I"⟩
abbrev cX7_leastSet : ByteArray := prog_9_method_12_code
def yX7_leastSet : MethodName := ⟨RX7, "leastSet", "(IIZ)I"⟩
abbrev cX7_travel : ByteArray := prog_9_method_13_code
def yX7_travel : MethodName := ⟨RX7, "travel", "(II[I)I"⟩
def RX8 : String := "EchoJars$ShopReader"
def TX8 : u_T := fun k => match k with
  | 0 => ("EchoJars$ShopReader", "tape", "LEchoJars$Tape;", true)
  | 1 => ("EchoJars$ShopReader", "soundNames", "[I", true)
  | 2 => ("EchoJars$ShopReader", "soundSizes", "[I", true)
  | 3 => ("EchoJars$ShopReader", "jarNames", "[I", true)
  | 4 => ("EchoJars$ShopReader", "jarSizes", "[I", true)
  | _ => ("EchoJars$ShopReader", "made", "LEchoJars$Shop;", false)
def tyX8 : Nat → FieldType := fun k => match k with
  | 0 => .object "EchoJars$Tape"
  | 1 => .array .int
  | 2 => .array .int
  | 3 => .array .int
  | 4 => .array .int
  | _ => .object "EchoJars$Shop"
abbrev wsX80 : List Cond := u_ws RX8 TX8 6
theorem nmX8 : ∀ a, a < 6 → ∀ b, b < 6 → a ≠ b → (TX8 a).2.1 ≠ (TX8 b).2.1 := by decide +kernel
theorem tyX8_ok : ∀ k, k < 6 → parseFieldDescriptor (TX8 k).2.2.1 = some (tyX8 k) := by decide +kernel
abbrev cX8_init : ByteArray := prog_10_method_1_code
def yX8_init : MethodName := ⟨RX8, "<init>", "(LEchoJars$Tape;)V"⟩
abbrev cX8_readShop : ByteArray := prog_10_method_2_code
def yX8_readShop : MethodName := ⟨RX8, "readShop", "(I)LEchoJars$Shop;"⟩
abbrev cX8_readSound : ByteArray := prog_10_method_3_code
def yX8_readSound : MethodName := ⟨RX8, "readSound", "()V"⟩
abbrev cX8_readJar : ByteArray := prog_10_method_4_code
def yX8_readJar : MethodName := ⟨RX8, "readJar", "()V"⟩
abbrev cX8_takeSide : ByteArray := prog_10_method_5_code
def yX8_takeSide : MethodName := ⟨RX8, "takeSide", "()I"⟩
abbrev cX8_readFill : ByteArray := prog_10_method_6_code
def yX8_readFill : MethodName := ⟨RX8, "readFill", "()V"⟩
abbrev cX8_takeNewName : ByteArray := prog_10_method_7_code
def yX8_takeNewName : MethodName := ⟨RX8, "takeNewName", "([I[II)V"⟩
abbrev cX8_takeToldName : ByteArray := prog_10_method_8_code
def yX8_takeToldName : MethodName := ⟨RX8, "takeToldName", "([I[IIZ)I"⟩
abbrev cX8_findName : ByteArray := prog_10_method_9_code
def yX8_findName : MethodName := ⟨RX8, "findName", "([I[II)I"⟩
abbrev cX8_takeLetters : ByteArray := prog_10_method_10_code
def yX8_takeLetters : MethodName := ⟨RX8, "takeLetters", "(LEchoJars$Row;)V"⟩
def RX9 : String := "EchoJars$Tape"
def TX9 : u_T := fun k => match k with
  | 0 => ("EchoJars$Tape", "bytes", "[B", true)
  | 1 => ("EchoJars$Tape", "used", "I", false)
  | 2 => ("EchoJars$Tape", "fault", "I", false)
  | 3 => ("EchoJars$Tape", "faultPlace", "I", false)
  | 4 => ("EchoJars$Tape", "start", "I", false)
  | 5 => ("EchoJars$Tape", "length", "I", false)
  | 6 => ("EchoJars$Tape", "end", "I", false)
  | _ => ("EchoJars$Tape", "kind", "I", false)
def tyX9 : Nat → FieldType := fun k => match k with
  | 0 => .array .byte
  | 1 => .int
  | 2 => .int
  | 3 => .int
  | 4 => .int
  | 5 => .int
  | 6 => .int
  | _ => .int
abbrev wsX90 : List Cond := u_ws RX9 TX9 8
theorem nmX9 : ∀ a, a < 8 → ∀ b, b < 8 → a ≠ b → (TX9 a).2.1 ≠ (TX9 b).2.1 := by decide +kernel
theorem tyX9_ok : ∀ k, k < 8 → parseFieldDescriptor (TX9 k).2.2.1 = some (tyX9 k) := by decide +kernel
abbrev cX9_init : ByteArray := prog_11_method_1_code
def yX9_init : MethodName := ⟨RX9, "<init>", "()V"⟩
abbrev cX9_hasRoomFor : ByteArray := prog_11_method_2_code
def yX9_hasRoomFor : MethodName := ⟨RX9, "hasRoomFor", "(I)Z"⟩
abbrev cX9_addInt : ByteArray := prog_11_method_3_code
def yX9_addInt : MethodName := ⟨RX9, "addInt", "(I)V"⟩
abbrev cX9_empty : ByteArray := prog_11_method_4_code
def yX9_empty : MethodName := ⟨RX9, "empty", "()V"⟩
abbrev cX9_open : ByteArray := prog_11_method_5_code
def yX9_open : MethodName := ⟨RX9, "open", "(I)V"⟩
abbrev cX9_hasFault : ByteArray := prog_11_method_6_code
def yX9_hasFault : MethodName := ⟨RX9, "hasFault", "()Z"⟩
abbrev cX9_isAtEnd : ByteArray := prog_11_method_7_code
def yX9_isAtEnd : MethodName := ⟨RX9, "isAtEnd", "()Z"⟩
abbrev cX9_size : ByteArray := prog_11_method_8_code
def yX9_size : MethodName := ⟨RX9, "size", "()I"⟩
abbrev cX9_letterAt : ByteArray := prog_11_method_9_code
def yX9_letterAt : MethodName := ⟨RX9, "letterAt", "(I)I"⟩
abbrev cX9_next : ByteArray := prog_11_method_10_code
def yX9_next : MethodName := ⟨RX9, "next", "()V"⟩
abbrev cX9_isBlank : ByteArray := prog_11_method_11_code
def yX9_isBlank : MethodName := ⟨RX9, "isBlank", "(B)Z"⟩
abbrev cX9_isSmallLetter : ByteArray := prog_11_method_12_code
def yX9_isSmallLetter : MethodName := ⟨RX9, "isSmallLetter", "(B)Z"⟩
abbrev cX9_isDigit : ByteArray := prog_11_method_13_code
def yX9_isDigit : MethodName := ⟨RX9, "isDigit", "(B)Z"⟩
abbrev cX9_stop : ByteArray := prog_11_method_14_code
def yX9_stop : MethodName := ⟨RX9, "stop", "(I)V"⟩
abbrev cX9_isWordUpTo : ByteArray := prog_11_method_15_code
def yX9_isWordUpTo : MethodName := ⟨RX9, "isWordUpTo", "(I)Z"⟩
abbrev cX9_isWord : ByteArray := prog_11_method_16_code
def yX9_isWord : MethodName := ⟨RX9, "isWord", "(Ljava/lang/String;)Z"⟩
abbrev cX9_isWordOf : ByteArray := prog_11_method_17_code
def yX9_isWordOf : MethodName := ⟨RX9, "isWordOf", "(II)Z"⟩
abbrev cX9_isName : ByteArray := prog_11_method_18_code
def yX9_isName : MethodName := ⟨RX9, "isName", "()Z"⟩
abbrev cX9_skipWord : ByteArray := prog_11_method_19_code
def yX9_skipWord : MethodName := ⟨RX9, "skipWord", "(Ljava/lang/String;)Z"⟩
abbrev cX9_takeWord : ByteArray := prog_11_method_20_code
def yX9_takeWord : MethodName := ⟨RX9, "takeWord", "(Ljava/lang/String;)V"⟩
abbrev cX9_takeSign : ByteArray := prog_11_method_21_code
def yX9_takeSign : MethodName := ⟨RX9, "takeSign", "()V"⟩
abbrev cX9_takeNumber : ByteArray := prog_11_method_22_code
def yX9_takeNumber : MethodName := ⟨RX9, "takeNumber", "(II)I"⟩
def RX10 : String := "EchoJars$Tray"
def TX10 : u_T := fun k => match k with
  | 0 => ("EchoJars$Tray", "numbers", "[J", true)
  | 1 => ("EchoJars$Tray", "sort", "I", false)
  | _ => ("EchoJars$Tray", "size", "I", false)
def tyX10 : Nat → FieldType := fun k => match k with
  | 0 => .array .long
  | 1 => .int
  | _ => .int
abbrev wsX100 : List Cond := u_ws RX10 TX10 3
theorem nmX10 : ∀ a, a < 3 → ∀ b, b < 3 → a ≠ b → (TX10 a).2.1 ≠ (TX10 b).2.1 := by decide +kernel
theorem tyX10_ok : ∀ k, k < 3 → parseFieldDescriptor (TX10 k).2.2.1 = some (tyX10 k) := by decide +kernel
abbrev cX10_init : ByteArray := prog_12_method_1_code
def yX10_init : MethodName := ⟨RX10, "<init>", "()V"⟩
abbrev cX10_isMissing : ByteArray := prog_12_method_2_code
def yX10_isMissing : MethodName := ⟨RX10, "isMissing", "()Z"⟩
abbrev cX10_lay : ByteArray := prog_12_method_3_code
def yX10_lay : MethodName := ⟨RX10, "lay", "(II)V"⟩
abbrev cX10_hasRun : ByteArray := prog_12_method_4_code
def yX10_hasRun : MethodName := ⟨RX10, "hasRun", "(II)Z"⟩
abbrev cX10_get : ByteArray := prog_12_method_5_code
def yX10_get : MethodName := ⟨RX10, "get", "(I)J"⟩
abbrev cX10_put : ByteArray := prog_12_method_6_code
def yX10_put : MethodName := ⟨RX10, "put", "(IJ)V"⟩
abbrev cX10_cut : ByteArray := prog_12_method_7_code
def yX10_cut : MethodName := ⟨RX10, "cut", "(J)J"⟩
abbrev cX10_holdsOnly : ByteArray := prog_12_method_8_code
def yX10_holdsOnly : MethodName := ⟨RX10, "holdsOnly", "(III)Z"⟩
def RX11 : String := "EchoJars"
def TX11 : u_T := fun k => match k with
  | 0 => ("EchoJars", "trays", "[LEchoJars$Tray;", true)
  | 1 => ("EchoJars", "tape", "LEchoJars$Tape;", true)
  | 2 => ("EchoJars", "shopReader", "LEchoJars$ShopReader;", true)
  | 3 => ("EchoJars", "lawReader", "LEchoJars$LawReader;", true)
  | 4 => ("EchoJars", "marks", "[LEchoJars$Mark;", true)
  | 5 => ("EchoJars", "heardRows", "[LEchoJars$Row;", true)
  | 6 => ("EchoJars", "slice", "LEchoJars$Row;", true)
  | 7 => ("EchoJars", "mixed", "LEchoJars$Row;", true)
  | 8 => ("EchoJars", "counts", "[I", true)
  | 9 => ("EchoJars", "brokeDays", "[I", true)
  | 10 => ("EchoJars", "triedDays", "[I", true)
  | 11 => ("EchoJars", "merger", "LEchoJars$Merger;", true)
  | 12 => ("EchoJars", "planner", "LEchoJars$Planner;", true)
  | 13 => ("EchoJars", "stock", "LEchoJars$Shop;", false)
  | 14 => ("EchoJars", "rules", "LEchoJars$Law;", false)
  | 15 => ("EchoJars", "today", "I", false)
  | 16 => ("EchoJars", "markCount", "I", false)
  | 17 => ("EchoJars", "state", "I", false)
  | 18 => ("EchoJars", "fractionTop", "J", false)
  | _ => ("EchoJars", "fractionBottom", "J", false)
def tyX11 : Nat → FieldType := fun k => match k with
  | 0 => .array (.object "EchoJars$Tray")
  | 1 => .object "EchoJars$Tape"
  | 2 => .object "EchoJars$ShopReader"
  | 3 => .object "EchoJars$LawReader"
  | 4 => .array (.object "EchoJars$Mark")
  | 5 => .array (.object "EchoJars$Row")
  | 6 => .object "EchoJars$Row"
  | 7 => .object "EchoJars$Row"
  | 8 => .array .int
  | 9 => .array .int
  | 10 => .array .int
  | 11 => .object "EchoJars$Merger"
  | 12 => .object "EchoJars$Planner"
  | 13 => .object "EchoJars$Shop"
  | 14 => .object "EchoJars$Law"
  | 15 => .int
  | 16 => .int
  | 17 => .int
  | 18 => .long
  | _ => .long
abbrev wsX110 : List Cond := u_ws RX11 TX11 20
theorem nmX11 : ∀ a, a < 20 → ∀ b, b < 20 → a ≠ b → (TX11 a).2.1 ≠ (TX11 b).2.1 := by decide +kernel
theorem tyX11_ok : ∀ k, k < 20 → parseFieldDescriptor (TX11 k).2.2.1 = some (tyX11 k) := by decide +kernel
abbrev cX11_init : ByteArray := prog_1_method_1_code
def yX11_init : MethodName := ⟨RX11, "<init>", "()V"⟩
abbrev cX11_status : ByteArray := prog_1_method_2_code
def yX11_status : MethodName := ⟨RX11, "status", "()I"⟩
abbrev cX11_top : ByteArray := prog_1_method_3_code
def yX11_top : MethodName := ⟨RX11, "top", "()J"⟩
abbrev cX11_bottom : ByteArray := prog_1_method_4_code
def yX11_bottom : MethodName := ⟨RX11, "bottom", "()J"⟩
abbrev cX11_tray : ByteArray := prog_1_method_5_code
def yX11_tray : MethodName := ⟨RX11, "tray", "(III)Z"⟩
abbrev cX11_write : ByteArray := prog_1_method_6_code
def yX11_write : MethodName := ⟨RX11, "write", "(IIJ)Z"⟩
abbrev cX11_read : ByteArray := prog_1_method_7_code
def yX11_read : MethodName := ⟨RX11, "read", "(II)J"⟩
abbrev cX11_pour : ByteArray := prog_1_method_8_code
def yX11_pour : MethodName := ⟨RX11, "pour", "(IIIII)Z"⟩
abbrev cX11_feed : ByteArray := prog_1_method_9_code
def yX11_feed : MethodName := ⟨RX11, "feed", "(IIIII)I"⟩
abbrev cX11_shop : ByteArray := prog_1_method_10_code
def yX11_shop : MethodName := ⟨RX11, "shop", "(I)I"⟩
abbrev cX11_law : ByteArray := prog_1_method_11_code
def yX11_law : MethodName := ⟨RX11, "law", "(I)I"⟩
abbrev cX11_fault : ByteArray := prog_1_method_12_code
def yX11_fault : MethodName := ⟨RX11, "fault", "(I)I"⟩
abbrev cX11_many : ByteArray := prog_1_method_13_code
def yX11_many : MethodName := ⟨RX11, "many", "(I)I"⟩
abbrev cX11_letter : ByteArray := prog_1_method_14_code
def yX11_letter : MethodName := ⟨RX11, "letter", "(II)I"⟩
abbrev cX11_jar : ByteArray := prog_1_method_15_code
def yX11_jar : MethodName := ⟨RX11, "jar", "(II)I"⟩
abbrev cX11_day : ByteArray := prog_1_method_16_code
def yX11_day : MethodName := ⟨RX11, "day", "(I)Z"⟩
abbrev cX11_heard : ByteArray := prog_1_method_17_code
def yX11_heard : MethodName := ⟨RX11, "heard", "(I)I"⟩
abbrev cX11_heardAt : ByteArray := prog_1_method_18_code
def yX11_heardAt : MethodName := ⟨RX11, "heardAt", "(II)I"⟩
abbrev cX11_pourOut : ByteArray := prog_1_method_19_code
def yX11_pourOut : MethodName := ⟨RX11, "pourOut", "(II)I"⟩
abbrev cX11_lost : ByteArray := prog_1_method_20_code
def yX11_lost : MethodName := ⟨RX11, "lost", "(I)I"⟩
abbrev cX11_silent : ByteArray := prog_1_method_21_code
def yX11_silent : MethodName := ⟨RX11, "silent", "(I)I"⟩
abbrev cX11_loudest : ByteArray := prog_1_method_22_code
def yX11_loudest : MethodName := ⟨RX11, "loudest", "(II)I"⟩
abbrev cX11_atOnce : ByteArray := prog_1_method_23_code
def yX11_atOnce : MethodName := ⟨RX11, "atOnce", "(III)I"⟩
abbrev cX11_couples : ByteArray := prog_1_method_24_code
def yX11_couples : MethodName := ⟨RX11, "couples", "(II)J"⟩
abbrev cX11_mixes : ByteArray := prog_1_method_25_code
def yX11_mixes : MethodName := ⟨RX11, "mixes", "(II)I"⟩
abbrev cX11_others : ByteArray := prog_1_method_26_code
def yX11_others : MethodName := ⟨RX11, "others", "(II)I"⟩
abbrev cX11_echoed : ByteArray := prog_1_method_27_code
def yX11_echoed : MethodName := ⟨RX11, "echoed", "(III)I"⟩
abbrev cX11_clearest : ByteArray := prog_1_method_28_code
def yX11_clearest : MethodName := ⟨RX11, "clearest", "(III)I"⟩
abbrev cX11_beside : ByteArray := prog_1_method_29_code
def yX11_beside : MethodName := ⟨RX11, "beside", "(IIII)J"⟩
abbrev cX11_fits : ByteArray := prog_1_method_30_code
def yX11_fits : MethodName := ⟨RX11, "fits", "(I)I"⟩
abbrev cX11_places : ByteArray := prog_1_method_31_code
def yX11_places : MethodName := ⟨RX11, "places", "(II)I"⟩
abbrev cX11_speaks : ByteArray := prog_1_method_32_code
def yX11_speaks : MethodName := ⟨RX11, "speaks", "(I)I"⟩
abbrev cX11_kinds : ByteArray := prog_1_method_33_code
def yX11_kinds : MethodName := ⟨RX11, "kinds", "(I)I"⟩
abbrev cX11_laps : ByteArray := prog_1_method_34_code
def yX11_laps : MethodName := ⟨RX11, "laps", "(II)I"⟩
abbrev cX11_merged : ByteArray := prog_1_method_35_code
def yX11_merged : MethodName := ⟨RX11, "merged", "(I)I"⟩
abbrev cX11_mergedAt : ByteArray := prog_1_method_36_code
def yX11_mergedAt : MethodName := ⟨RX11, "mergedAt", "(I)I"⟩
abbrev cX11_since : ByteArray := prog_1_method_37_code
def yX11_since : MethodName := ⟨RX11, "since", "(III)I"⟩
abbrev cX11_far : ByteArray := prog_1_method_38_code
def yX11_far : MethodName := ⟨RX11, "far", "(II)I"⟩
abbrev cX11_common : ByteArray := prog_1_method_39_code
def yX11_common : MethodName := ⟨RX11, "common", "(II)I"⟩
abbrev cX11_chain : ByteArray := prog_1_method_40_code
def yX11_chain : MethodName := ⟨RX11, "chain", "(I)I"⟩
abbrev cX11_chainAt : ByteArray := prog_1_method_41_code
def yX11_chainAt : MethodName := ⟨RX11, "chainAt", "(I)I"⟩
abbrev cX11_witness : ByteArray := prog_1_method_42_code
def yX11_witness : MethodName := ⟨RX11, "witness", "(I)I"⟩
abbrev cX11_fillFrom : ByteArray := prog_1_method_43_code
def yX11_fillFrom : MethodName := ⟨RX11, "fillFrom", "(III)I"⟩
abbrev cX11_keeps : ByteArray := prog_1_method_44_code
def yX11_keeps : MethodName := ⟨RX11, "keeps", "(II)I"⟩
abbrev cX11_fewest : ByteArray := prog_1_method_45_code
def yX11_fewest : MethodName := ⟨RX11, "fewest", "(II)I"⟩
abbrev cX11_cheapest : ByteArray := prog_1_method_46_code
def yX11_cheapest : MethodName := ⟨RX11, "cheapest", "(III)I"⟩
abbrev cX11_shelf : ByteArray := prog_1_method_47_code
def yX11_shelf : MethodName := ⟨RX11, "shelf", "()I"⟩
abbrev cX11_shelfAt : ByteArray := prog_1_method_48_code
def yX11_shelfAt : MethodName := ⟨RX11, "shelfAt", "(I)I"⟩
abbrev cX11_pieced : ByteArray := prog_1_method_49_code
def yX11_pieced : MethodName := ⟨RX11, "pieced", "(II)I"⟩
abbrev cX11_road : ByteArray := prog_1_method_50_code
def yX11_road : MethodName := ⟨RX11, "road", "(II)I"⟩
abbrev cX11_brokeOn : ByteArray := prog_1_method_51_code
def yX11_brokeOn : MethodName := ⟨RX11, "brokeOn", "(I)I"⟩
abbrev cX11_odds : ByteArray := prog_1_method_52_code
def yX11_odds : MethodName := ⟨RX11, "odds", "(IIII)Z"⟩
abbrev cX11_safe : ByteArray := prog_1_method_53_code
def yX11_safe : MethodName := ⟨RX11, "safe", "(III)Z"⟩
abbrev cX11_third : ByteArray := prog_1_method_54_code
def yX11_third : MethodName := ⟨RX11, "third", "(IIII)Z"⟩
abbrev cX11_second : ByteArray := prog_1_method_55_code
def yX11_second : MethodName := ⟨RX11, "second", "(IIII)Z"⟩
abbrev cX11_anyTwo : ByteArray := prog_1_method_56_code
def yX11_anyTwo : MethodName := ⟨RX11, "anyTwo", "(III)I"⟩
abbrev cX11_mark : ByteArray := prog_1_method_57_code
def yX11_mark : MethodName := ⟨RX11, "mark", "()I"⟩
abbrev cX11_back : ByteArray := prog_1_method_58_code
def yX11_back : MethodName := ⟨RX11, "back", "()I"⟩
abbrev cX11_answer : ByteArray := prog_1_method_59_code
def yX11_answer : MethodName := ⟨RX11, "answer", "(I)I"⟩
abbrev cX11_refuse : ByteArray := prog_1_method_60_code
def yX11_refuse : MethodName := ⟨RX11, "refuse", "(I)I"⟩
abbrev cX11_allow : ByteArray := prog_1_method_61_code
def yX11_allow : MethodName := ⟨RX11, "allow", "()Z"⟩
abbrev cX11_deny : ByteArray := prog_1_method_62_code
def yX11_deny : MethodName := ⟨RX11, "deny", "(I)Z"⟩
abbrev cX11_answerAt : ByteArray := prog_1_method_63_code
def yX11_answerAt : MethodName := ⟨RX11, "answerAt", "(LEchoJars$Row;I)I"⟩
abbrev cX11_answerOrNoSuch : ByteArray := prog_1_method_64_code
def yX11_answerOrNoSuch : MethodName := ⟨RX11, "answerOrNoSuch", "(I)I"⟩
abbrev cX11_bring : ByteArray := prog_1_method_65_code
def yX11_bring : MethodName := ⟨RX11, "bring", "(LEchoJars$Row;I)I"⟩
abbrev cX11_tellFraction : ByteArray := prog_1_method_66_code
def yX11_tellFraction : MethodName := ⟨RX11, "tellFraction", "(JJ)V"⟩
abbrev cX11_within : ByteArray := prog_1_method_67_code
def yX11_within : MethodName := ⟨RX11, "within", "(JJJ)Z"⟩
abbrev cX11_isIn : ByteArray := prog_1_method_68_code
def yX11_isIn : MethodName := ⟨RX11, "isIn", "(II)Z"⟩
abbrev cX11_isTray : ByteArray := prog_1_method_69_code
def yX11_isTray : MethodName := ⟨RX11, "isTray", "(I)Z"⟩
abbrev cX11_isLetterOrRest : ByteArray := prog_1_method_70_code
def yX11_isLetterOrRest : MethodName := ⟨RX11, "isLetterOrRest", "(I)Z"⟩
abbrev cX11_isJar : ByteArray := prog_1_method_71_code
def yX11_isJar : MethodName := ⟨RX11, "isJar", "(I)Z"⟩
abbrev cX11_isSound : ByteArray := prog_1_method_72_code
def yX11_isSound : MethodName := ⟨RX11, "isSound", "(I)Z"⟩
abbrev cX11_isJarSet : ByteArray := prog_1_method_73_code
def yX11_isJarSet : MethodName := ⟨RX11, "isJarSet", "(I)Z"⟩
abbrev cX11_placeReason : ByteArray := prog_1_method_74_code
def yX11_placeReason : MethodName := ⟨RX11, "placeReason", "(II)I"⟩
abbrev cX11_rowReason : ByteArray := prog_1_method_75_code
def yX11_rowReason : MethodName := ⟨RX11, "rowReason", "(IIII)I"⟩
abbrev cX11_threeReason : ByteArray := prog_1_method_76_code
def yX11_threeReason : MethodName := ⟨RX11, "threeReason", "(IIII)I"⟩
abbrev cX11_hear : ByteArray := prog_1_method_77_code
def yX11_hear : MethodName := ⟨RX11, "hear", "(I)LEchoJars$Row;"⟩
abbrev cX11_mixRows : ByteArray := prog_1_method_78_code
def yX11_mixRows : MethodName := ⟨RX11, "mixRows", "(LEchoJars$Row;LEchoJars$Row;I)LEchoJars$Row;"⟩
abbrev cX11_countCouples : ByteArray := prog_1_method_79_code
def yX11_countCouples : MethodName := ⟨RX11, "countCouples", "()V"⟩
abbrev cX11_speakers : ByteArray := prog_1_method_80_code
def yX11_speakers : MethodName := ⟨RX11, "speakers", "(I)I"⟩
abbrev cX11_followers : ByteArray := prog_1_method_81_code
def yX11_followers : MethodName := ⟨RX11, "followers", "(II)I"⟩
abbrev cX11_leastWitness : ByteArray := prog_1_method_82_code
def yX11_leastWitness : MethodName := ⟨RX11, "leastWitness", "(I)I"⟩
abbrev cX11_fitsCounted : ByteArray := prog_1_method_83_code
def yX11_fitsCounted : MethodName := ⟨RX11, "fitsCounted", "(I)I"⟩
abbrev cX11_bestFilling : ByteArray := prog_1_method_84_code
def yX11_bestFilling : MethodName := ⟨RX11, "bestFilling", "(LEchoJars$Jar;LEchoJars$Row;I)I"⟩
abbrev cX11_leastPiecing : ByteArray := prog_1_method_85_code
def yX11_leastPiecing : MethodName := ⟨RX11, "leastPiecing", "(LEchoJars$Row;Z)I"⟩
abbrev cX11_longestPiece : ByteArray := prog_1_method_86_code
def yX11_longestPiece : MethodName := ⟨RX11, "longestPiece", "(LEchoJars$Row;I)I"⟩
abbrev cX11_joinsHeard : ByteArray := prog_1_method_87_code
def yX11_joinsHeard : MethodName := ⟨RX11, "joinsHeard", "(LEchoJars$Row;I)I"⟩
abbrev cX11_isVowel : ByteArray := prog_1_method_88_code
def yX11_isVowel : MethodName := ⟨RX11, "isVowel", "(I)Z"⟩
abbrev cX11_thirdOf : ByteArray := prog_1_method_89_code
def yX11_thirdOf : MethodName := ⟨RX11, "thirdOf", "(JJ)J"⟩
abbrev cX11_secondOf : ByteArray := prog_1_method_90_code
def yX11_secondOf : MethodName := ⟨RX11, "secondOf", "(JJ)J"⟩
abbrev cX11_isThird : ByteArray := prog_1_method_91_code
def yX11_isThird : MethodName := ⟨RX11, "isThird", "(LEchoJars$Row;LEchoJars$Row;LEchoJars$Row;)Z"⟩
def RX12 : String := "EchoJarsModel"
def TX12 : u_T := fun k => match k with
  | 0 => ("EchoJarsModel", "status", "I", false)
  | 1 => ("EchoJarsModel", "thrown", "I", false)
  | 2 => ("EchoJarsModel", "above", "J", false)
  | 3 => ("EchoJarsModel", "under", "J", false)
  | 4 => ("EchoJarsModel", "traySort", "[I", true)
  | 5 => ("EchoJarsModel", "trayMany", "[I", true)
  | 6 => ("EchoJarsModel", "numbers", "[J", true)
  | 7 => ("EchoJarsModel", "tape", "[B", true)
  | 8 => ("EchoJarsModel", "taped", "I", false)
  | 9 => ("EchoJarsModel", "textEnd", "I", false)
  | 10 => ("EchoJarsModel", "faultKind", "I", false)
  | 11 => ("EchoJarsModel", "faultAt", "I", false)
  | 12 => ("EchoJarsModel", "bad", "I", false)
  | 13 => ("EchoJarsModel", "badAt", "I", false)
  | 14 => ("EchoJarsModel", "token", "I", false)
  | 15 => ("EchoJarsModel", "at", "I", false)
  | 16 => ("EchoJarsModel", "behind", "I", false)
  | 17 => ("EchoJarsModel", "number", "I", false)
  | 18 => ("EchoJarsModel", "letters", "I", false)
  | 19 => ("EchoJarsModel", "word", "J", false)
  | 20 => ("EchoJarsModel", "c", "[I", true)
  | 21 => ("EchoJarsModel", "words", "[J", true)
  | 22 => ("EchoJarsModel", "markMany", "I", false)
  | 23 => ("EchoJarsModel", "rowA", "[I", true)
  | 24 => ("EchoJarsModel", "rowB", "[I", true)
  | 25 => ("EchoJarsModel", "rowC", "[I", true)
  | 26 => ("EchoJarsModel", "rulesRead", "I", false)
  | 27 => ("EchoJarsModel", "dist", "[I", true)
  | 28 => ("EchoJarsModel", "chained", "[I", true)
  | 29 => ("EchoJarsModel", "chainBest", "[I", true)
  | 30 => ("EchoJarsModel", "chainTold", "[I", true)
  | 31 => ("EchoJarsModel", "chainMany", "I", false)
  | 32 => ("EchoJarsModel", "chainToldMany", "I", false)
  | 33 => ("EchoJarsModel", "mergeJars", "[I", true)
  | 34 => ("EchoJarsModel", "mergeTold", "[I", true)
  | 35 => ("EchoJarsModel", "mergeBest", "[I", true)
  | 36 => ("EchoJarsModel", "mergeMany", "I", false)
  | 37 => ("EchoJarsModel", "mergeLength", "I", false)
  | 38 => ("EchoJarsModel", "mergeToldLength", "I", false)
  | 39 => ("EchoJarsModel", "rest", "[I", true)
  | 40 => ("EchoJarsModel", "shelfTold", "[I", true)
  | 41 => ("EchoJarsModel", "shelfMany", "I", false)
  | 42 => ("EchoJarsModel", "pieces", "[I", true)
  | 43 => ("EchoJarsModel", "joins", "[I", true)
  | 44 => ("EchoJarsModel", "random", "I", false)
  | 45 => ("EchoJarsModel", "roadMany", "I", false)
  | 46 => ("EchoJarsModel", "broke", "[I", true)
  | _ => ("EchoJarsModel", "roadTold", "[I", true)
def tyX12 : Nat → FieldType := fun k => match k with
  | 0 => .int
  | 1 => .int
  | 2 => .long
  | 3 => .long
  | 4 => .array .int
  | 5 => .array .int
  | 6 => .array .long
  | 7 => .array .byte
  | 8 => .int
  | 9 => .int
  | 10 => .int
  | 11 => .int
  | 12 => .int
  | 13 => .int
  | 14 => .int
  | 15 => .int
  | 16 => .int
  | 17 => .int
  | 18 => .int
  | 19 => .long
  | 20 => .array .int
  | 21 => .array .long
  | 22 => .int
  | 23 => .array .int
  | 24 => .array .int
  | 25 => .array .int
  | 26 => .int
  | 27 => .array .int
  | 28 => .array .int
  | 29 => .array .int
  | 30 => .array .int
  | 31 => .int
  | 32 => .int
  | 33 => .array .int
  | 34 => .array .int
  | 35 => .array .int
  | 36 => .int
  | 37 => .int
  | 38 => .int
  | 39 => .array .int
  | 40 => .array .int
  | 41 => .int
  | 42 => .array .int
  | 43 => .array .int
  | 44 => .int
  | 45 => .int
  | 46 => .array .int
  | _ => .array .int
abbrev wsX120 : List Cond := u_ws RX12 TX12 48
theorem nmX12 : ∀ a, a < 48 → ∀ b, b < 48 → a ≠ b → (TX12 a).2.1 ≠ (TX12 b).2.1 := by decide +kernel
theorem tyX12_ok : ∀ k, k < 48 → parseFieldDescriptor (TX12 k).2.2.1 = some (tyX12 k) := by decide +kernel
abbrev cX12_init : ByteArray := prog_14_method_1_code
def yX12_init : MethodName := ⟨RX12, "<init>", "()V"⟩
abbrev cX12_status : ByteArray := prog_14_method_3_code
def yX12_status : MethodName := ⟨RX12, "status", "()I"⟩
abbrev cX12_top : ByteArray := prog_14_method_4_code
def yX12_top : MethodName := ⟨RX12, "top", "()J"⟩
abbrev cX12_bottom : ByteArray := prog_14_method_5_code
def yX12_bottom : MethodName := ⟨RX12, "bottom", "()J"⟩
abbrev cX12_refuse : ByteArray := prog_14_method_6_code
def yX12_refuse : MethodName := ⟨RX12, "refuse", "(I)I"⟩
abbrev cX12_no : ByteArray := prog_14_method_7_code
def yX12_no : MethodName := ⟨RX12, "no", "(I)Z"⟩
abbrev cX12_isIn : ByteArray := prog_14_method_8_code
def yX12_isIn : MethodName := ⟨RX12, "isIn", "(JJJ)Z"⟩
abbrev cX12_fraction : ByteArray := prog_14_method_9_code
def yX12_fraction : MethodName := ⟨RX12, "fraction", "(JJ)Z"⟩
abbrev cX12_cut : ByteArray := prog_14_method_10_code
def yX12_cut : MethodName := ⟨RX12, "cut", "(IJ)J"⟩
abbrev cX12_tray : ByteArray := prog_14_method_11_code
def yX12_tray : MethodName := ⟨RX12, "tray", "(III)Z"⟩
abbrev cX12_trayed : ByteArray := prog_14_method_12_code
def yX12_trayed : MethodName := ⟨RX12, "trayed", "(I)I"⟩
abbrev cX12_placed : ByteArray := prog_14_method_13_code
def yX12_placed : MethodName := ⟨RX12, "placed", "(II)I"⟩
abbrev cX12_write : ByteArray := prog_14_method_14_code
def yX12_write : MethodName := ⟨RX12, "write", "(IIJ)Z"⟩
abbrev cX12_read : ByteArray := prog_14_method_15_code
def yX12_read : MethodName := ⟨RX12, "read", "(II)J"⟩
abbrev cX12_pour : ByteArray := prog_14_method_16_code
def yX12_pour : MethodName := ⟨RX12, "pour", "(IIIII)Z"⟩
abbrev cX12_numberOf : ByteArray := prog_14_method_17_code
def yX12_numberOf : MethodName := ⟨RX12, "numberOf", "(II)J"⟩
abbrev cX12_isTray : ByteArray := prog_14_method_18_code
def yX12_isTray : MethodName := ⟨RX12, "isTray", "(I)Z"⟩
abbrev cX12_look2 : ByteArray := prog_14_method_19_code
def yX12_look2 : MethodName := ⟨RX12, "look2", "(I)I"⟩
abbrev cX12_isLetter : ByteArray := prog_14_method_20_code
def yX12_isLetter : MethodName := ⟨RX12, "isLetter", "(I)Z"⟩
abbrev cX12_isDigit : ByteArray := prog_14_method_21_code
def yX12_isDigit : MethodName := ⟨RX12, "isDigit", "(I)Z"⟩
abbrev cX12_next : ByteArray := prog_14_method_22_code
def yX12_next : MethodName := ⟨RX12, "next", "()V"⟩
abbrev cX12_spelled : ByteArray := prog_14_method_23_code
def yX12_spelled : MethodName := ⟨RX12, "spelled", "(IIIIII)J"⟩
abbrev cX12_isWord : ByteArray := prog_14_method_24_code
def yX12_isWord : MethodName := ⟨RX12, "isWord", "(J)Z"⟩
abbrev cX12_isSound : ByteArray := prog_14_method_25_code
def yX12_isSound : MethodName := ⟨RX12, "isSound", "()Z"⟩
abbrev cX12_isJar : ByteArray := prog_14_method_26_code
def yX12_isJar : MethodName := ⟨RX12, "isJar", "()Z"⟩
abbrev cX12_isSize : ByteArray := prog_14_method_27_code
def yX12_isSize : MethodName := ⟨RX12, "isSize", "()Z"⟩
abbrev cX12_isLeaks : ByteArray := prog_14_method_28_code
def yX12_isLeaks : MethodName := ⟨RX12, "isLeaks", "()Z"⟩
abbrev cX12_isHead : ByteArray := prog_14_method_29_code
def yX12_isHead : MethodName := ⟨RX12, "isHead", "()Z"⟩
abbrev cX12_isTail : ByteArray := prog_14_method_30_code
def yX12_isTail : MethodName := ⟨RX12, "isTail", "()Z"⟩
abbrev cX12_isCosts : ByteArray := prog_14_method_31_code
def yX12_isCosts : MethodName := ⟨RX12, "isCosts", "()Z"⟩
abbrev cX12_isWorth : ByteArray := prog_14_method_32_code
def yX12_isWorth : MethodName := ⟨RX12, "isWorth", "()Z"⟩
abbrev cX12_isBreaks : ByteArray := prog_14_method_33_code
def yX12_isBreaks : MethodName := ⟨RX12, "isBreaks", "()Z"⟩
abbrev cX12_isFill : ByteArray := prog_14_method_34_code
def yX12_isFill : MethodName := ⟨RX12, "isFill", "()Z"⟩
abbrev cX12_isOf : ByteArray := prog_14_method_35_code
def yX12_isOf : MethodName := ⟨RX12, "isOf", "()Z"⟩
abbrev cX12_isFrom : ByteArray := prog_14_method_36_code
def yX12_isFrom : MethodName := ⟨RX12, "isFrom", "()Z"⟩
abbrev cX12_isOn : ByteArray := prog_14_method_37_code
def yX12_isOn : MethodName := ⟨RX12, "isOn", "()Z"⟩
abbrev cX12_isMix : ByteArray := prog_14_method_38_code
def yX12_isMix : MethodName := ⟨RX12, "isMix", "()Z"⟩
abbrev cX12_isWith : ByteArray := prog_14_method_39_code
def yX12_isWith : MethodName := ⟨RX12, "isWith", "()Z"⟩
abbrev cX12_isGives : ByteArray := prog_14_method_40_code
def yX12_isGives : MethodName := ⟨RX12, "isGives", "()Z"⟩
abbrev cX12_isAny : ByteArray := prog_14_method_41_code
def yX12_isAny : MethodName := ⟨RX12, "isAny", "()Z"⟩
abbrev cX12_isSame : ByteArray := prog_14_method_42_code
def yX12_isSame : MethodName := ⟨RX12, "isSame", "()Z"⟩
abbrev cX12_isRest : ByteArray := prog_14_method_43_code
def yX12_isRest : MethodName := ⟨RX12, "isRest", "()Z"⟩
abbrev cX12_isFirst : ByteArray := prog_14_method_44_code
def yX12_isFirst : MethodName := ⟨RX12, "isFirst", "()Z"⟩
abbrev cX12_isSecond : ByteArray := prog_14_method_45_code
def yX12_isSecond : MethodName := ⟨RX12, "isSecond", "()Z"⟩
abbrev cX12_isKept : ByteArray := prog_14_method_46_code
def yX12_isKept : MethodName := ⟨RX12, "isKept", "()Z"⟩
abbrev cX12_isName : ByteArray := prog_14_method_47_code
def yX12_isName : MethodName := ⟨RX12, "isName", "()Z"⟩
abbrev cX12_fail : ByteArray := prog_14_method_48_code
def yX12_fail : MethodName := ⟨RX12, "fail", "(II)V"⟩
abbrev cX12_wrong : ByteArray := prog_14_method_49_code
def yX12_wrong : MethodName := ⟨RX12, "wrong", "()V"⟩
abbrev cX12_must : ByteArray := prog_14_method_50_code
def yX12_must : MethodName := ⟨RX12, "must", "(Z)V"⟩
abbrev cX12_count : ByteArray := prog_14_method_51_code
def yX12_count : MethodName := ⟨RX12, "count", "(II)I"⟩
abbrev cX12_feed : ByteArray := prog_14_method_52_code
def yX12_feed : MethodName := ⟨RX12, "feed", "(IIIII)I"⟩
abbrev cX12_lay : ByteArray := prog_14_method_53_code
def yX12_lay : MethodName := ⟨RX12, "lay", "(I)V"⟩
abbrev cX12_opens : ByteArray := prog_14_method_54_code
def yX12_opens : MethodName := ⟨RX12, "opens", "(II)Z"⟩
abbrev cX12_isWell : ByteArray := prog_14_method_55_code
def yX12_isWell : MethodName := ⟨RX12, "isWell", "()Z"⟩
abbrev cX12_fault : ByteArray := prog_14_method_56_code
def yX12_fault : MethodName := ⟨RX12, "fault", "(I)I"⟩
abbrev cX12_named : ByteArray := prog_14_method_57_code
def yX12_named : MethodName := ⟨RX12, "named", "(II)I"⟩
abbrev cX12_readNew : ByteArray := prog_14_method_58_code
def yX12_readNew : MethodName := ⟨RX12, "readNew", "(II)V"⟩
abbrev cX12_readTold : ByteArray := prog_14_method_59_code
def yX12_readTold : MethodName := ⟨RX12, "readTold", "(II)I"⟩
abbrev cX12_readSound : ByteArray := prog_14_method_60_code
def yX12_readSound : MethodName := ⟨RX12, "readSound", "()V"⟩
abbrev cX12_told : ByteArray := prog_14_method_61_code
def yX12_told : MethodName := ⟨RX12, "told", "(ZIII)I"⟩
abbrev cX12_readJar : ByteArray := prog_14_method_62_code
def yX12_readJar : MethodName := ⟨RX12, "readJar", "()V"⟩
abbrev cX12_readFill : ByteArray := prog_14_method_63_code
def yX12_readFill : MethodName := ⟨RX12, "readFill", "()V"⟩
abbrev cX12_shop : ByteArray := prog_14_method_64_code
def yX12_shop : MethodName := ⟨RX12, "shop", "(I)I"⟩
abbrev cX12_readKind : ByteArray := prog_14_method_65_code
def yX12_readKind : MethodName := ⟨RX12, "readKind", "()I"⟩
abbrev cX12_readWhat : ByteArray := prog_14_method_66_code
def yX12_readWhat : MethodName := ⟨RX12, "readWhat", "()I"⟩
abbrev cX12_readRule : ByteArray := prog_14_method_67_code
def yX12_readRule : MethodName := ⟨RX12, "readRule", "()V"⟩
abbrev cX12_law : ByteArray := prog_14_method_68_code
def yX12_law : MethodName := ⟨RX12, "law", "(I)I"⟩
abbrev cX12_isSoundAt : ByteArray := prog_14_method_69_code
def yX12_isSoundAt : MethodName := ⟨RX12, "isSoundAt", "(I)Z"⟩
abbrev cX12_isJarAt : ByteArray := prog_14_method_70_code
def yX12_isJarAt : MethodName := ⟨RX12, "isJarAt", "(I)Z"⟩
abbrev cX12_areJars : ByteArray := prog_14_method_71_code
def yX12_areJars : MethodName := ⟨RX12, "areJars", "(I)Z"⟩
abbrev cX12_has : ByteArray := prog_14_method_72_code
def yX12_has : MethodName := ⟨RX12, "has", "(II)Z"⟩
abbrev cX12_bits : ByteArray := prog_14_method_73_code
def yX12_bits : MethodName := ⟨RX12, "bits", "(I)I"⟩
abbrev cX12_empties : ByteArray := prog_14_method_74_code
def yX12_empties : MethodName := ⟨RX12, "empties", "()I"⟩
abbrev cX12_many : ByteArray := prog_14_method_75_code
def yX12_many : MethodName := ⟨RX12, "many", "(I)I"⟩
abbrev cX12_soundAt : ByteArray := prog_14_method_76_code
def yX12_soundAt : MethodName := ⟨RX12, "soundAt", "(II)I"⟩
abbrev cX12_letter : ByteArray := prog_14_method_77_code
def yX12_letter : MethodName := ⟨RX12, "letter", "(II)I"⟩
abbrev cX12_jar : ByteArray := prog_14_method_78_code
def yX12_jar : MethodName := ⟨RX12, "jar", "(II)I"⟩
abbrev cX12_day : ByteArray := prog_14_method_79_code
def yX12_day : MethodName := ⟨RX12, "day", "(I)Z"⟩
abbrev cX12_goneOf : ByteArray := prog_14_method_80_code
def yX12_goneOf : MethodName := ⟨RX12, "goneOf", "(III)I"⟩
abbrev cX12_headGone : ByteArray := prog_14_method_81_code
def yX12_headGone : MethodName := ⟨RX12, "headGone", "(II)I"⟩
abbrev cX12_heardOn : ByteArray := prog_14_method_82_code
def yX12_heardOn : MethodName := ⟨RX12, "heardOn", "(II)I"⟩
abbrev cX12_heardNow : ByteArray := prog_14_method_83_code
def yX12_heardNow : MethodName := ⟨RX12, "heardNow", "(I)I"⟩
abbrev cX12_heardLetter : ByteArray := prog_14_method_84_code
def yX12_heardLetter : MethodName := ⟨RX12, "heardLetter", "(II)I"⟩
abbrev cX12_heard : ByteArray := prog_14_method_85_code
def yX12_heard : MethodName := ⟨RX12, "heard", "(I)I"⟩
abbrev cX12_heardAt : ByteArray := prog_14_method_86_code
def yX12_heardAt : MethodName := ⟨RX12, "heardAt", "(II)I"⟩
abbrev cX12_whyNoRow : ByteArray := prog_14_method_87_code
def yX12_whyNoRow : MethodName := ⟨RX12, "whyNoRow", "(II)I"⟩
abbrev cX12_toTray : ByteArray := prog_14_method_88_code
def yX12_toTray : MethodName := ⟨RX12, "toTray", "(III)V"⟩
abbrev cX12_pourOut : ByteArray := prog_14_method_89_code
def yX12_pourOut : MethodName := ⟨RX12, "pourOut", "(II)I"⟩
abbrev cX12_lost : ByteArray := prog_14_method_90_code
def yX12_lost : MethodName := ⟨RX12, "lost", "(I)I"⟩
abbrev cX12_silent : ByteArray := prog_14_method_91_code
def yX12_silent : MethodName := ⟨RX12, "silent", "(I)I"⟩
abbrev cX12_since : ByteArray := prog_14_method_92_code
def yX12_since : MethodName := ⟨RX12, "since", "(III)I"⟩
abbrev cX12_loudest : ByteArray := prog_14_method_93_code
def yX12_loudest : MethodName := ⟨RX12, "loudest", "(II)I"⟩
abbrev cX12_fitsKind : ByteArray := prog_14_method_94_code
def yX12_fitsKind : MethodName := ⟨RX12, "fitsKind", "(II)Z"⟩
abbrev cX12_mixOf : ByteArray := prog_14_method_95_code
def yX12_mixOf : MethodName := ⟨RX12, "mixOf", "(II)I"⟩
abbrev cX12_heardOrRest : ByteArray := prog_14_method_96_code
def yX12_heardOrRest : MethodName := ⟨RX12, "heardOrRest", "(II)I"⟩
abbrev cX12_atOnce : ByteArray := prog_14_method_97_code
def yX12_atOnce : MethodName := ⟨RX12, "atOnce", "(III)I"⟩
abbrev cX12_mixes : ByteArray := prog_14_method_98_code
def yX12_mixes : MethodName := ⟨RX12, "mixes", "(II)I"⟩
abbrev cX12_othersOf : ByteArray := prog_14_method_99_code
def yX12_othersOf : MethodName := ⟨RX12, "othersOf", "(II)I"⟩
abbrev cX12_others : ByteArray := prog_14_method_100_code
def yX12_others : MethodName := ⟨RX12, "others", "(II)I"⟩
abbrev cX12_soundOrRest : ByteArray := prog_14_method_101_code
def yX12_soundOrRest : MethodName := ⟨RX12, "soundOrRest", "(II)I"⟩
abbrev cX12_echoed : ByteArray := prog_14_method_102_code
def yX12_echoed : MethodName := ⟨RX12, "echoed", "(III)I"⟩
abbrev cX12_clearest : ByteArray := prog_14_method_103_code
def yX12_clearest : MethodName := ⟨RX12, "clearest", "(III)I"⟩
abbrev cX12_whyNoLetters : ByteArray := prog_14_method_104_code
def yX12_whyNoLetters : MethodName := ⟨RX12, "whyNoLetters", "(III)I"⟩
abbrev cX12_couples : ByteArray := prog_14_method_105_code
def yX12_couples : MethodName := ⟨RX12, "couples", "(II)J"⟩
abbrev cX12_beside : ByteArray := prog_14_method_106_code
def yX12_beside : MethodName := ⟨RX12, "beside", "(IIII)J"⟩
abbrev cX12_standsAt : ByteArray := prog_14_method_107_code
def yX12_standsAt : MethodName := ⟨RX12, "standsAt", "(IIII)Z"⟩
abbrev cX12_placesIn : ByteArray := prog_14_method_108_code
def yX12_placesIn : MethodName := ⟨RX12, "placesIn", "(II)I"⟩
abbrev cX12_fitsOf : ByteArray := prog_14_method_109_code
def yX12_fitsOf : MethodName := ⟨RX12, "fitsOf", "(I)I"⟩
abbrev cX12_fits : ByteArray := prog_14_method_110_code
def yX12_fits : MethodName := ⟨RX12, "fits", "(I)I"⟩
abbrev cX12_places : ByteArray := prog_14_method_111_code
def yX12_places : MethodName := ⟨RX12, "places", "(II)I"⟩
abbrev cX12_speaks : ByteArray := prog_14_method_112_code
def yX12_speaks : MethodName := ⟨RX12, "speaks", "(I)I"⟩
abbrev cX12_lapsOf : ByteArray := prog_14_method_113_code
def yX12_lapsOf : MethodName := ⟨RX12, "lapsOf", "(II)I"⟩
abbrev cX12_laps : ByteArray := prog_14_method_114_code
def yX12_laps : MethodName := ⟨RX12, "laps", "(II)I"⟩
abbrev cX12_kinds : ByteArray := prog_14_method_115_code
def yX12_kinds : MethodName := ⟨RX12, "kinds", "(I)I"⟩
abbrev cX12_far : ByteArray := prog_14_method_116_code
def yX12_far : MethodName := ⟨RX12, "far", "(II)I"⟩
abbrev cX12_common : ByteArray := prog_14_method_117_code
def yX12_common : MethodName := ⟨RX12, "common", "(II)I"⟩
abbrev cX12_chainFrom : ByteArray := prog_14_method_118_code
def yX12_chainFrom : MethodName := ⟨RX12, "chainFrom", "(III)V"⟩
abbrev cX12_chain : ByteArray := prog_14_method_119_code
def yX12_chain : MethodName := ⟨RX12, "chain", "(I)I"⟩
abbrev cX12_chainAt : ByteArray := prog_14_method_120_code
def yX12_chainAt : MethodName := ⟨RX12, "chainAt", "(I)I"⟩
abbrev cX12_witness : ByteArray := prog_14_method_121_code
def yX12_witness : MethodName := ⟨RX12, "witness", "(I)I"⟩
abbrev cX12_standsIn : ByteArray := prog_14_method_122_code
def yX12_standsIn : MethodName := ⟨RX12, "standsIn", "(II)Z"⟩
abbrev cX12_isOwn : ByteArray := prog_14_method_123_code
def yX12_isOwn : MethodName := ⟨RX12, "isOwn", "(II)Z"⟩
abbrev cX12_isLess : ByteArray := prog_14_method_124_code
def yX12_isLess : MethodName := ⟨RX12, "isLess", "(I)Z"⟩
abbrev cX12_mergeFrom : ByteArray := prog_14_method_125_code
def yX12_mergeFrom : MethodName := ⟨RX12, "mergeFrom", "(III)V"⟩
abbrev cX12_merged : ByteArray := prog_14_method_126_code
def yX12_merged : MethodName := ⟨RX12, "merged", "(I)I"⟩
abbrev cX12_mergedAt : ByteArray := prog_14_method_127_code
def yX12_mergedAt : MethodName := ⟨RX12, "mergedAt", "(I)I"⟩
abbrev cX12_keepsOf : ByteArray := prog_14_method_128_code
def yX12_keepsOf : MethodName := ⟨RX12, "keepsOf", "(II)I"⟩
abbrev cX12_keeps : ByteArray := prog_14_method_129_code
def yX12_keeps : MethodName := ⟨RX12, "keeps", "(II)I"⟩
abbrev cX12_keptBy : ByteArray := prog_14_method_130_code
def yX12_keptBy : MethodName := ⟨RX12, "keptBy", "(II)I"⟩
abbrev cX12_costOf : ByteArray := prog_14_method_131_code
def yX12_costOf : MethodName := ⟨RX12, "costOf", "(I)I"⟩
abbrev cX12_fewest : ByteArray := prog_14_method_132_code
def yX12_fewest : MethodName := ⟨RX12, "fewest", "(II)I"⟩
abbrev cX12_cheapest : ByteArray := prog_14_method_133_code
def yX12_cheapest : MethodName := ⟨RX12, "cheapest", "(III)I"⟩
abbrev cX12_fillFrom : ByteArray := prog_14_method_134_code
def yX12_fillFrom : MethodName := ⟨RX12, "fillFrom", "(III)I"⟩
abbrev cX12_worthOn : ByteArray := prog_14_method_135_code
def yX12_worthOn : MethodName := ⟨RX12, "worthOn", "(II)I"⟩
abbrev cX12_shelf : ByteArray := prog_14_method_136_code
def yX12_shelf : MethodName := ⟨RX12, "shelf", "()I"⟩
abbrev cX12_shelfAt : ByteArray := prog_14_method_137_code
def yX12_shelfAt : MethodName := ⟨RX12, "shelfAt", "(I)I"⟩
abbrev cX12_isHeard : ByteArray := prog_14_method_138_code
def yX12_isHeard : MethodName := ⟨RX12, "isHeard", "(III)Z"⟩
abbrev cX12_isVowel : ByteArray := prog_14_method_139_code
def yX12_isVowel : MethodName := ⟨RX12, "isVowel", "(I)Z"⟩
abbrev cX12_pieced : ByteArray := prog_14_method_140_code
def yX12_pieced : MethodName := ⟨RX12, "pieced", "(II)I"⟩
abbrev cX12_draw : ByteArray := prog_14_method_141_code
def yX12_draw : MethodName := ⟨RX12, "draw", "()I"⟩
abbrev cX12_wholeBehind : ByteArray := prog_14_method_142_code
def yX12_wholeBehind : MethodName := ⟨RX12, "wholeBehind", "(II)I"⟩
abbrev cX12_road : ByteArray := prog_14_method_143_code
def yX12_road : MethodName := ⟨RX12, "road", "(II)I"⟩
abbrev cX12_brokeOn : ByteArray := prog_14_method_144_code
def yX12_brokeOn : MethodName := ⟨RX12, "brokeOn", "(I)I"⟩
abbrev cX12_odds : ByteArray := prog_14_method_145_code
def yX12_odds : MethodName := ⟨RX12, "odds", "(IIII)Z"⟩
abbrev cX12_power : ByteArray := prog_14_method_146_code
def yX12_power : MethodName := ⟨RX12, "power", "(JI)J"⟩
abbrev cX12_safe : ByteArray := prog_14_method_147_code
def yX12_safe : MethodName := ⟨RX12, "safe", "(III)Z"⟩
abbrev cX12_reads : ByteArray := prog_14_method_148_code
def yX12_reads : MethodName := ⟨RX12, "reads", "(IIII)I"⟩
abbrev cX12_third : ByteArray := prog_14_method_149_code
def yX12_third : MethodName := ⟨RX12, "third", "(IIII)Z"⟩
abbrev cX12_second : ByteArray := prog_14_method_150_code
def yX12_second : MethodName := ⟨RX12, "second", "(IIII)Z"⟩
abbrev cX12_anyTwo : ByteArray := prog_14_method_151_code
def yX12_anyTwo : MethodName := ⟨RX12, "anyTwo", "(III)I"⟩
abbrev cX12_copy : ByteArray := prog_14_method_152_code
def yX12_copy : MethodName := ⟨RX12, "copy", "(II)V"⟩
abbrev cX12_mark : ByteArray := prog_14_method_153_code
def yX12_mark : MethodName := ⟨RX12, "mark", "()I"⟩
abbrev cX12_back : ByteArray := prog_14_method_154_code
def yX12_back : MethodName := ⟨RX12, "back", "()I"⟩
def RJ6 : String := "java/lang/Integer"
abbrev cJ6_bitCount_0f7a4 : ByteArray := prog_15_method_49_code
def yJ6_bitCount_0f7a4 : MethodName := ⟨RJ6, "bitCount", "(I)I"⟩
def RJ9 : String := "java/lang/Math"
abbrev cJ9_abs_067f4 : ByteArray := prog_16_method_61_code
def yJ9_abs_067f4 : MethodName := ⟨RJ9, "abs", "(J)J"⟩
abbrev cJ9_max_7cf53 : ByteArray := prog_16_method_65_code
def yJ9_max_7cf53 : MethodName := ⟨RJ9, "max", "(II)I"⟩
abbrev cJ9_min_7cf53 : ByteArray := prog_16_method_69_code
def yJ9_min_7cf53 : MethodName := ⟨RJ9, "min", "(II)I"⟩
def RJ0 : String := "java/lang/String"
abbrev cJ0_length_8abf5 : ByteArray := prog_17_method_54_code
def yJ0_length_8abf5 : MethodName := ⟨RJ0, "length", "()I"⟩
abbrev cJ0_charAt_5068e : ByteArray := prog_17_method_56_code
def yJ0_charAt_5068e : MethodName := ⟨RJ0, "charAt", "(I)C"⟩
abbrev cJ0_coder_7d493 : ByteArray := prog_17_method_152_code
def yJ0_coder_7d493 : MethodName := ⟨RJ0, "coder", "()B"⟩
abbrev cJ0_isLatin1_aae02 : ByteArray := prog_17_method_154_code
def yJ0_isLatin1_aae02 : MethodName := ⟨RJ0, "isLatin1", "()Z"⟩
abbrev cJ0_checkIndex_df160 : ByteArray := prog_17_method_155_code
def yJ0_checkIndex_df160 : MethodName := ⟨RJ0, "checkIndex", "(II)V"⟩
def RJ1 : String := "java/lang/StringLatin1"
abbrev cJ1_charAt_3b067 : ByteArray := prog_18_method_2_code
def yJ1_charAt_3b067 : MethodName := ⟨RJ1, "charAt", "([BI)C"⟩
def RJ2 : String := "java/lang/StringUTF16"
abbrev cJ2_getChar_3b067 : ByteArray := prog_19_method_5_code
def yJ2_getChar_3b067 : MethodName := ⟨RJ2, "getChar", "([BI)C"⟩
abbrev cJ2_length_9d52b : ByteArray := prog_19_method_6_code
def yJ2_length_9d52b : MethodName := ⟨RJ2, "length", "([B)I"⟩
abbrev cJ2_charAt_3b067 : ByteArray := prog_19_method_83_code
def yJ2_charAt_3b067 : MethodName := ⟨RJ2, "charAt", "([BI)C"⟩
abbrev cJ2_checkIndex_2214a : ByteArray := prog_19_method_91_code
def yJ2_checkIndex_2214a : MethodName := ⟨RJ2, "checkIndex", "(I[B)V"⟩
def RJ10 : String := "java/lang/System"
def RJ3 : String := "jdk/internal/util/Preconditions"
abbrev cJ3_checkIndex_8e157 : ByteArray := prog_21_method_11_code
def yJ3_checkIndex_8e157 : MethodName := ⟨RJ3, "checkIndex", "(IILjava/util/function/BiFunction;)I"⟩
def RL : String := "EchoJarsLaw"
abbrev cL_law : ByteArray := code
def yL_law : MethodName := ⟨RL, "law", "([I)Z"⟩
abbrev vwCl : List vw_C := [(RX0, TX0, 10), (RX1, TX1, 4), (RX2, TX2, 1), (RX3, TX3, 3), (RX4, TX4, 9), (RX5, TX5, 5), (RX6, TX6, 3), (RX7, TX7, 4), (RX8, TX8, 6), (RX9, TX9, 8), (RX10, TX10, 3), (RX11, TX11, 20), (RX12, TX12, 48)]
