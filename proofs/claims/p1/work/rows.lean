section
-- ===== PART A: goes FIRST, ahead of the names: the tables' words, and 'selects' of the private methods out of them =====
/-- a private method of a class that the tables say can be made, by its rows of tables_1 -/
def lw_okq (q : MethodName × Nat) : Prop := (q.1.cls ≠ "java/lang/invoke/MethodHandle" ∧ q.1.cls ≠ "java/lang/invoke/VarHandle") ∧ Cond.instantiable q.1.cls q.2 ∈ tables_1 ∧ Cond.privateMethod q.1 ∈ tables_1 ∧ Cond.instanceMethod q.1 ∈ tables_1
theorem lw_p0 : lw_okq (⟨"SpaceLinks$World", "leave", "(II)V"⟩, 10) := ⟨⟨by decide +kernel, by decide +kernel⟩, List.mem_of_getElem? (i := 30) (by decide +kernel), List.mem_of_getElem? (i := 465) (by decide +kernel), List.mem_of_getElem? (i := 466) (by decide +kernel)⟩
theorem lw_p1 : lw_okq (⟨"SpaceLinks$World", "hear", "(I)V"⟩, 10) := ⟨⟨by decide +kernel, by decide +kernel⟩, List.mem_of_getElem? (i := 30) (by decide +kernel), List.mem_of_getElem? (i := 555) (by decide +kernel), List.mem_of_getElem? (i := 556) (by decide +kernel)⟩
theorem lw_p2 : lw_okq (⟨"SpaceLinks$World", "draw", "()I"⟩, 10) := ⟨⟨by decide +kernel, by decide +kernel⟩, List.mem_of_getElem? (i := 30) (by decide +kernel), List.mem_of_getElem? (i := 559) (by decide +kernel), List.mem_of_getElem? (i := 560) (by decide +kernel)⟩
theorem lw_p3 : lw_okq (⟨"SpaceLinks$World", "hearCredit", "(I)V"⟩, 10) := ⟨⟨by decide +kernel, by decide +kernel⟩, List.mem_of_getElem? (i := 30) (by decide +kernel), List.mem_of_getElem? (i := 565) (by decide +kernel), List.mem_of_getElem? (i := 566) (by decide +kernel)⟩
theorem lw_p4 : lw_okq (⟨"SpaceLinks$World", "hearTime", "(II)V"⟩, 10) := ⟨⟨by decide +kernel, by decide +kernel⟩, List.mem_of_getElem? (i := 30) (by decide +kernel), List.mem_of_getElem? (i := 569) (by decide +kernel), List.mem_of_getElem? (i := 570) (by decide +kernel)⟩
theorem lw_p5 : lw_okq (⟨"SpaceLinks$World", "hearData", "(II)V"⟩, 10) := ⟨⟨by decide +kernel, by decide +kernel⟩, List.mem_of_getElem? (i := 30) (by decide +kernel), List.mem_of_getElem? (i := 581) (by decide +kernel), List.mem_of_getElem? (i := 582) (by decide +kernel)⟩
theorem lw_p6 : lw_okq (⟨"SpaceLinks$World", "grow", "(I)V"⟩, 10) := ⟨⟨by decide +kernel, by decide +kernel⟩, List.mem_of_getElem? (i := 30) (by decide +kernel), List.mem_of_getElem? (i := 585) (by decide +kernel), List.mem_of_getElem? (i := 586) (by decide +kernel)⟩
theorem lw_p7 : lw_okq (⟨"SpaceLinks$World", "growOn", "(I)V"⟩, 10) := ⟨⟨by decide +kernel, by decide +kernel⟩, List.mem_of_getElem? (i := 30) (by decide +kernel), List.mem_of_getElem? (i := 589) (by decide +kernel), List.mem_of_getElem? (i := 590) (by decide +kernel)⟩
theorem lw_p8 : lw_okq (⟨"SpaceLinks$World", "serve", "(LSpaceLinks$Router;I)V"⟩, 10) := ⟨⟨by decide +kernel, by decide +kernel⟩, List.mem_of_getElem? (i := 30) (by decide +kernel), List.mem_of_getElem? (i := 593) (by decide +kernel), List.mem_of_getElem? (i := 594) (by decide +kernel)⟩
theorem lw_p9 : lw_okq (⟨"SpaceLinks$World", "spill", "(I)I"⟩, 10) := ⟨⟨by decide +kernel, by decide +kernel⟩, List.mem_of_getElem? (i := 30) (by decide +kernel), List.mem_of_getElem? (i := 597) (by decide +kernel), List.mem_of_getElem? (i := 598) (by decide +kernel)⟩
theorem lw_p10 : lw_okq (⟨"SpaceLinks$World", "obeys", "(LSpaceLinks$Router;I)Z"⟩, 10) := ⟨⟨by decide +kernel, by decide +kernel⟩, List.mem_of_getElem? (i := 30) (by decide +kernel), List.mem_of_getElem? (i := 606) (by decide +kernel), List.mem_of_getElem? (i := 607) (by decide +kernel)⟩
theorem lw_p11 : lw_okq (⟨"SpaceLinks$World", "answer", "(LSpaceLinks$Router;IZ)V"⟩, 10) := ⟨⟨by decide +kernel, by decide +kernel⟩, List.mem_of_getElem? (i := 30) (by decide +kernel), List.mem_of_getElem? (i := 611) (by decide +kernel), List.mem_of_getElem? (i := 612) (by decide +kernel)⟩
theorem lw_p12 : lw_okq (⟨"SpaceLinks$World", "begin", "(LSpaceLinks$Router;I)Z"⟩, 10) := ⟨⟨by decide +kernel, by decide +kernel⟩, List.mem_of_getElem? (i := 30) (by decide +kernel), List.mem_of_getElem? (i := 619) (by decide +kernel), List.mem_of_getElem? (i := 620) (by decide +kernel)⟩
theorem lw_p13 : lw_okq (⟨"SpaceLinks$World", "openPort", "(II)I"⟩, 10) := ⟨⟨by decide +kernel, by decide +kernel⟩, List.mem_of_getElem? (i := 30) (by decide +kernel), List.mem_of_getElem? (i := 635) (by decide +kernel), List.mem_of_getElem? (i := 636) (by decide +kernel)⟩
theorem lw_p14 : lw_okq (⟨"SpaceLinks$World", "stick", "(I)V"⟩, 10) := ⟨⟨by decide +kernel, by decide +kernel⟩, List.mem_of_getElem? (i := 30) (by decide +kernel), List.mem_of_getElem? (i := 642) (by decide +kernel), List.mem_of_getElem? (i := 643) (by decide +kernel)⟩
theorem lw_p15 : lw_okq (⟨"SpaceLinks$World", "takeIn", "(I)V"⟩, 10) := ⟨⟨by decide +kernel, by decide +kernel⟩, List.mem_of_getElem? (i := 30) (by decide +kernel), List.mem_of_getElem? (i := 646) (by decide +kernel), List.mem_of_getElem? (i := 647) (by decide +kernel)⟩
def lw_privs_1 : List (MethodName × Nat) := [(⟨"SpaceLinks$World", "leave", "(II)V"⟩, 10), (⟨"SpaceLinks$World", "hear", "(I)V"⟩, 10), (⟨"SpaceLinks$World", "draw", "()I"⟩, 10), (⟨"SpaceLinks$World", "hearCredit", "(I)V"⟩, 10), (⟨"SpaceLinks$World", "hearTime", "(II)V"⟩, 10), (⟨"SpaceLinks$World", "hearData", "(II)V"⟩, 10), (⟨"SpaceLinks$World", "grow", "(I)V"⟩, 10), (⟨"SpaceLinks$World", "growOn", "(I)V"⟩, 10), (⟨"SpaceLinks$World", "serve", "(LSpaceLinks$Router;I)V"⟩, 10), (⟨"SpaceLinks$World", "spill", "(I)I"⟩, 10), (⟨"SpaceLinks$World", "obeys", "(LSpaceLinks$Router;I)Z"⟩, 10), (⟨"SpaceLinks$World", "answer", "(LSpaceLinks$Router;IZ)V"⟩, 10), (⟨"SpaceLinks$World", "begin", "(LSpaceLinks$Router;I)Z"⟩, 10), (⟨"SpaceLinks$World", "openPort", "(II)I"⟩, 10), (⟨"SpaceLinks$World", "stick", "(I)V"⟩, 10), (⟨"SpaceLinks$World", "takeIn", "(I)V"⟩, 10)]
theorem lw_r1 : ∀ q ∈ lw_privs_1, lw_okq q := List.forall_mem_cons.mpr ⟨lw_p0, List.forall_mem_cons.mpr ⟨lw_p1, List.forall_mem_cons.mpr ⟨lw_p2, List.forall_mem_cons.mpr ⟨lw_p3, List.forall_mem_cons.mpr ⟨lw_p4, List.forall_mem_cons.mpr ⟨lw_p5, List.forall_mem_cons.mpr ⟨lw_p6, List.forall_mem_cons.mpr ⟨lw_p7, List.forall_mem_cons.mpr ⟨lw_p8, List.forall_mem_cons.mpr ⟨lw_p9, List.forall_mem_cons.mpr ⟨lw_p10, List.forall_mem_cons.mpr ⟨lw_p11, List.forall_mem_cons.mpr ⟨lw_p12, List.forall_mem_cons.mpr ⟨lw_p13, List.forall_mem_cons.mpr ⟨lw_p14, List.forall_mem_cons.mpr ⟨lw_p15, fun _ h => absurd h List.not_mem_nil⟩⟩⟩⟩⟩⟩⟩⟩⟩⟩⟩⟩⟩⟩⟩⟩
theorem lw_p16 : lw_okq (⟨"SpaceLinks$World", "transmit", "(I)V"⟩, 10) := ⟨⟨by decide +kernel, by decide +kernel⟩, List.mem_of_getElem? (i := 30) (by decide +kernel), List.mem_of_getElem? (i := 661) (by decide +kernel), List.mem_of_getElem? (i := 662) (by decide +kernel)⟩
theorem lw_p17 : lw_okq (⟨"SpaceLinks$World", "transmitInRun", "(I)V"⟩, 10) := ⟨⟨by decide +kernel, by decide +kernel⟩, List.mem_of_getElem? (i := 30) (by decide +kernel), List.mem_of_getElem? (i := 669) (by decide +kernel), List.mem_of_getElem? (i := 670) (by decide +kernel)⟩
theorem lw_p18 : lw_okq (⟨"SpaceLinks$World", "choose", "(I)I"⟩, 10) := ⟨⟨by decide +kernel, by decide +kernel⟩, List.mem_of_getElem? (i := 30) (by decide +kernel), List.mem_of_getElem? (i := 673) (by decide +kernel), List.mem_of_getElem? (i := 674) (by decide +kernel)⟩
theorem lw_p19 : lw_okq (⟨"SpaceLinks$World", "passOn", "(I)I"⟩, 10) := ⟨⟨by decide +kernel, by decide +kernel⟩, List.mem_of_getElem? (i := 30) (by decide +kernel), List.mem_of_getElem? (i := 677) (by decide +kernel), List.mem_of_getElem? (i := 678) (by decide +kernel)⟩
theorem lw_p20 : lw_okq (⟨"SpaceLinks$World", "unstickSpilling", "()V"⟩, 10) := ⟨⟨by decide +kernel, by decide +kernel⟩, List.mem_of_getElem? (i := 30) (by decide +kernel), List.mem_of_getElem? (i := 684) (by decide +kernel), List.mem_of_getElem? (i := 685) (by decide +kernel)⟩
theorem lw_p21 : lw_okq (⟨"SpaceLinks$Tape", "skipBlanks", "()V"⟩, 7) := ⟨⟨by decide +kernel, by decide +kernel⟩, List.mem_of_getElem? (i := 399) (by decide +kernel), List.mem_of_getElem? (i := 716) (by decide +kernel), List.mem_of_getElem? (i := 717) (by decide +kernel)⟩
theorem lw_p22 : lw_okq (⟨"SpaceLinks$Tape", "readLine", "(LSpaceLinks$World;)Z"⟩, 7) := ⟨⟨by decide +kernel, by decide +kernel⟩, List.mem_of_getElem? (i := 399) (by decide +kernel), List.mem_of_getElem? (i := 720) (by decide +kernel), List.mem_of_getElem? (i := 721) (by decide +kernel)⟩
theorem lw_p23 : lw_okq (⟨"SpaceLinks$Tape", "takesWord", "(Ljava/lang/String;)Z"⟩, 7) := ⟨⟨by decide +kernel, by decide +kernel⟩, List.mem_of_getElem? (i := 399) (by decide +kernel), List.mem_of_getElem? (i := 725) (by decide +kernel), List.mem_of_getElem? (i := 726) (by decide +kernel)⟩
theorem lw_p24 : lw_okq (⟨"SpaceLinks$Tape", "readCable", "(LSpaceLinks$World;)Z"⟩, 7) := ⟨⟨by decide +kernel, by decide +kernel⟩, List.mem_of_getElem? (i := 399) (by decide +kernel), List.mem_of_getElem? (i := 784) (by decide +kernel), List.mem_of_getElem? (i := 785) (by decide +kernel)⟩
theorem lw_p25 : lw_okq (⟨"SpaceLinks$Tape", "readSocket", "(LSpaceLinks$World;I)I"⟩, 7) := ⟨⟨by decide +kernel, by decide +kernel⟩, List.mem_of_getElem? (i := 399) (by decide +kernel), List.mem_of_getElem? (i := 788) (by decide +kernel), List.mem_of_getElem? (i := 789) (by decide +kernel)⟩
theorem lw_p26 : lw_okq (⟨"SpaceLinks$Tape", "readNumber", "(II)I"⟩, 7) := ⟨⟨by decide +kernel, by decide +kernel⟩, List.mem_of_getElem? (i := 399) (by decide +kernel), List.mem_of_getElem? (i := 793) (by decide +kernel), List.mem_of_getElem? (i := 794) (by decide +kernel)⟩
theorem lw_p27 : lw_okq (⟨"SpaceLinks$Tape", "fails", "(II)Z"⟩, 7) := ⟨⟨by decide +kernel, by decide +kernel⟩, List.mem_of_getElem? (i := 399) (by decide +kernel), List.mem_of_getElem? (i := 800) (by decide +kernel), List.mem_of_getElem? (i := 801) (by decide +kernel)⟩
theorem lw_p28 : lw_okq (⟨"SpaceLinks$Tape", "takesSign", "(C)Z"⟩, 7) := ⟨⟨by decide +kernel, by decide +kernel⟩, List.mem_of_getElem? (i := 399) (by decide +kernel), List.mem_of_getElem? (i := 807) (by decide +kernel), List.mem_of_getElem? (i := 808) (by decide +kernel)⟩
theorem lw_p29 : lw_okq (⟨"SpaceLinks$Tape", "readTable", "(LSpaceLinks$World;)Z"⟩, 7) := ⟨⟨by decide +kernel, by decide +kernel⟩, List.mem_of_getElem? (i := 399) (by decide +kernel), List.mem_of_getElem? (i := 812) (by decide +kernel), List.mem_of_getElem? (i := 813) (by decide +kernel)⟩
theorem lw_p30 : lw_okq (⟨"SpaceLinks$Tape", "readPorts", "()I"⟩, 7) := ⟨⟨by decide +kernel, by decide +kernel⟩, List.mem_of_getElem? (i := 399) (by decide +kernel), List.mem_of_getElem? (i := 819) (by decide +kernel), List.mem_of_getElem? (i := 820) (by decide +kernel)⟩
theorem lw_p31 : lw_okq (⟨"SpaceLinks", "layAllTold", "()V"⟩, 4) := ⟨⟨by decide +kernel, by decide +kernel⟩, List.mem_of_getElem? (i := 22) (by decide +kernel), List.mem_of_getElem? (i := 823) (by decide +kernel), List.mem_of_getElem? (i := 824) (by decide +kernel)⟩
def lw_privs_2 : List (MethodName × Nat) := [(⟨"SpaceLinks$World", "transmit", "(I)V"⟩, 10), (⟨"SpaceLinks$World", "transmitInRun", "(I)V"⟩, 10), (⟨"SpaceLinks$World", "choose", "(I)I"⟩, 10), (⟨"SpaceLinks$World", "passOn", "(I)I"⟩, 10), (⟨"SpaceLinks$World", "unstickSpilling", "()V"⟩, 10), (⟨"SpaceLinks$Tape", "skipBlanks", "()V"⟩, 7), (⟨"SpaceLinks$Tape", "readLine", "(LSpaceLinks$World;)Z"⟩, 7), (⟨"SpaceLinks$Tape", "takesWord", "(Ljava/lang/String;)Z"⟩, 7), (⟨"SpaceLinks$Tape", "readCable", "(LSpaceLinks$World;)Z"⟩, 7), (⟨"SpaceLinks$Tape", "readSocket", "(LSpaceLinks$World;I)I"⟩, 7), (⟨"SpaceLinks$Tape", "readNumber", "(II)I"⟩, 7), (⟨"SpaceLinks$Tape", "fails", "(II)Z"⟩, 7), (⟨"SpaceLinks$Tape", "takesSign", "(C)Z"⟩, 7), (⟨"SpaceLinks$Tape", "readTable", "(LSpaceLinks$World;)Z"⟩, 7), (⟨"SpaceLinks$Tape", "readPorts", "()I"⟩, 7), (⟨"SpaceLinks", "layAllTold", "()V"⟩, 4)]
theorem lw_r2 : ∀ q ∈ lw_privs_2, lw_okq q := List.forall_mem_cons.mpr ⟨lw_p16, List.forall_mem_cons.mpr ⟨lw_p17, List.forall_mem_cons.mpr ⟨lw_p18, List.forall_mem_cons.mpr ⟨lw_p19, List.forall_mem_cons.mpr ⟨lw_p20, List.forall_mem_cons.mpr ⟨lw_p21, List.forall_mem_cons.mpr ⟨lw_p22, List.forall_mem_cons.mpr ⟨lw_p23, List.forall_mem_cons.mpr ⟨lw_p24, List.forall_mem_cons.mpr ⟨lw_p25, List.forall_mem_cons.mpr ⟨lw_p26, List.forall_mem_cons.mpr ⟨lw_p27, List.forall_mem_cons.mpr ⟨lw_p28, List.forall_mem_cons.mpr ⟨lw_p29, List.forall_mem_cons.mpr ⟨lw_p30, List.forall_mem_cons.mpr ⟨lw_p31, fun _ h => absurd h List.not_mem_nil⟩⟩⟩⟩⟩⟩⟩⟩⟩⟩⟩⟩⟩⟩⟩⟩
theorem lw_p32 : lw_okq (⟨"SpaceLinks", "keptPacket", "(II)LSpaceLinks$Packet;"⟩, 4) := ⟨⟨by decide +kernel, by decide +kernel⟩, List.mem_of_getElem? (i := 22) (by decide +kernel), List.mem_of_getElem? (i := 890) (by decide +kernel), List.mem_of_getElem? (i := 891) (by decide +kernel)⟩
theorem lw_p33 : lw_okq (⟨"SpaceLinksModel", "isSocket", "(I)Z"⟩, 13) := ⟨⟨by decide +kernel, by decide +kernel⟩, List.mem_of_getElem? (i := 1034) (by decide +kernel), List.mem_of_getElem? (i := 1084) (by decide +kernel), List.mem_of_getElem? (i := 1085) (by decide +kernel)⟩
theorem lw_p34 : lw_okq (⟨"SpaceLinksModel", "at", "(II)I"⟩, 13) := ⟨⟨by decide +kernel, by decide +kernel⟩, List.mem_of_getElem? (i := 1034) (by decide +kernel), List.mem_of_getElem? (i := 1088) (by decide +kernel), List.mem_of_getElem? (i := 1089) (by decide +kernel)⟩
theorem lw_p35 : lw_okq (⟨"SpaceLinksModel", "joins", "(II)V"⟩, 13) := ⟨⟨by decide +kernel, by decide +kernel⟩, List.mem_of_getElem? (i := 1034) (by decide +kernel), List.mem_of_getElem? (i := 1092) (by decide +kernel), List.mem_of_getElem? (i := 1093) (by decide +kernel)⟩
theorem lw_p36 : lw_okq (⟨"SpaceLinksModel", "puts", "(III)V"⟩, 13) := ⟨⟨by decide +kernel, by decide +kernel⟩, List.mem_of_getElem? (i := 1034) (by decide +kernel), List.mem_of_getElem? (i := 1096) (by decide +kernel), List.mem_of_getElem? (i := 1097) (by decide +kernel)⟩
theorem lw_p37 : lw_okq (⟨"SpaceLinksModel", "settles", "(I)V"⟩, 13) := ⟨⟨by decide +kernel, by decide +kernel⟩, List.mem_of_getElem? (i := 1034) (by decide +kernel), List.mem_of_getElem? (i := 1100) (by decide +kernel), List.mem_of_getElem? (i := 1101) (by decide +kernel)⟩
theorem lw_p38 : lw_okq (⟨"SpaceLinksModel", "becomes", "(II)V"⟩, 13) := ⟨⟨by decide +kernel, by decide +kernel⟩, List.mem_of_getElem? (i := 1034) (by decide +kernel), List.mem_of_getElem? (i := 1104) (by decide +kernel), List.mem_of_getElem? (i := 1105) (by decide +kernel)⟩
theorem lw_p39 : lw_okq (⟨"SpaceLinksModel", "logs", "(II)V"⟩, 13) := ⟨⟨by decide +kernel, by decide +kernel⟩, List.mem_of_getElem? (i := 1034) (by decide +kernel), List.mem_of_getElem? (i := 1108) (by decide +kernel), List.mem_of_getElem? (i := 1109) (by decide +kernel)⟩
theorem lw_p40 : lw_okq (⟨"SpaceLinksModel", "isLive", "(I)Z"⟩, 13) := ⟨⟨by decide +kernel, by decide +kernel⟩, List.mem_of_getElem? (i := 1034) (by decide +kernel), List.mem_of_getElem? (i := 1112) (by decide +kernel), List.mem_of_getElem? (i := 1113) (by decide +kernel)⟩
theorem lw_p41 : lw_okq (⟨"SpaceLinksModel", "falls", "(II)V"⟩, 13) := ⟨⟨by decide +kernel, by decide +kernel⟩, List.mem_of_getElem? (i := 1034) (by decide +kernel), List.mem_of_getElem? (i := 1116) (by decide +kernel), List.mem_of_getElem? (i := 1117) (by decide +kernel)⟩
theorem lw_p42 : lw_okq (⟨"SpaceLinksModel", "more", "(II)V"⟩, 13) := ⟨⟨by decide +kernel, by decide +kernel⟩, List.mem_of_getElem? (i := 1034) (by decide +kernel), List.mem_of_getElem? (i := 1120) (by decide +kernel), List.mem_of_getElem? (i := 1121) (by decide +kernel)⟩
theorem lw_p43 : lw_okq (⟨"SpaceLinksModel", "buffers", "(II)V"⟩, 13) := ⟨⟨by decide +kernel, by decide +kernel⟩, List.mem_of_getElem? (i := 1034) (by decide +kernel), List.mem_of_getElem? (i := 1124) (by decide +kernel), List.mem_of_getElem? (i := 1125) (by decide +kernel)⟩
theorem lw_p44 : lw_okq (⟨"SpaceLinksModel", "routedTo", "(I)I"⟩, 13) := ⟨⟨by decide +kernel, by decide +kernel⟩, List.mem_of_getElem? (i := 1034) (by decide +kernel), List.mem_of_getElem? (i := 1128) (by decide +kernel), List.mem_of_getElem? (i := 1129) (by decide +kernel)⟩
theorem lw_p45 : lw_okq (⟨"SpaceLinksModel", "spills", "(I)V"⟩, 13) := ⟨⟨by decide +kernel, by decide +kernel⟩, List.mem_of_getElem? (i := 1034) (by decide +kernel), List.mem_of_getElem? (i := 1132) (by decide +kernel), List.mem_of_getElem? (i := 1133) (by decide +kernel)⟩
theorem lw_p46 : lw_okq (⟨"SpaceLinksModel", "losesQueue", "(I)V"⟩, 13) := ⟨⟨by decide +kernel, by decide +kernel⟩, List.mem_of_getElem? (i := 1034) (by decide +kernel), List.mem_of_getElem? (i := 1136) (by decide +kernel), List.mem_of_getElem? (i := 1137) (by decide +kernel)⟩
theorem lw_p47 : lw_okq (⟨"SpaceLinksModel", "ofEnd", "(II)I"⟩, 13) := ⟨⟨by decide +kernel, by decide +kernel⟩, List.mem_of_getElem? (i := 1034) (by decide +kernel), List.mem_of_getElem? (i := 1140) (by decide +kernel), List.mem_of_getElem? (i := 1141) (by decide +kernel)⟩
def lw_privs_3 : List (MethodName × Nat) := [(⟨"SpaceLinks", "keptPacket", "(II)LSpaceLinks$Packet;"⟩, 4), (⟨"SpaceLinksModel", "isSocket", "(I)Z"⟩, 13), (⟨"SpaceLinksModel", "at", "(II)I"⟩, 13), (⟨"SpaceLinksModel", "joins", "(II)V"⟩, 13), (⟨"SpaceLinksModel", "puts", "(III)V"⟩, 13), (⟨"SpaceLinksModel", "settles", "(I)V"⟩, 13), (⟨"SpaceLinksModel", "becomes", "(II)V"⟩, 13), (⟨"SpaceLinksModel", "logs", "(II)V"⟩, 13), (⟨"SpaceLinksModel", "isLive", "(I)Z"⟩, 13), (⟨"SpaceLinksModel", "falls", "(II)V"⟩, 13), (⟨"SpaceLinksModel", "more", "(II)V"⟩, 13), (⟨"SpaceLinksModel", "buffers", "(II)V"⟩, 13), (⟨"SpaceLinksModel", "routedTo", "(I)I"⟩, 13), (⟨"SpaceLinksModel", "spills", "(I)V"⟩, 13), (⟨"SpaceLinksModel", "losesQueue", "(I)V"⟩, 13), (⟨"SpaceLinksModel", "ofEnd", "(II)I"⟩, 13)]
theorem lw_r3 : ∀ q ∈ lw_privs_3, lw_okq q := List.forall_mem_cons.mpr ⟨lw_p32, List.forall_mem_cons.mpr ⟨lw_p33, List.forall_mem_cons.mpr ⟨lw_p34, List.forall_mem_cons.mpr ⟨lw_p35, List.forall_mem_cons.mpr ⟨lw_p36, List.forall_mem_cons.mpr ⟨lw_p37, List.forall_mem_cons.mpr ⟨lw_p38, List.forall_mem_cons.mpr ⟨lw_p39, List.forall_mem_cons.mpr ⟨lw_p40, List.forall_mem_cons.mpr ⟨lw_p41, List.forall_mem_cons.mpr ⟨lw_p42, List.forall_mem_cons.mpr ⟨lw_p43, List.forall_mem_cons.mpr ⟨lw_p44, List.forall_mem_cons.mpr ⟨lw_p45, List.forall_mem_cons.mpr ⟨lw_p46, List.forall_mem_cons.mpr ⟨lw_p47, fun _ h => absurd h List.not_mem_nil⟩⟩⟩⟩⟩⟩⟩⟩⟩⟩⟩⟩⟩⟩⟩⟩
theorem lw_p48 : lw_okq (⟨"SpaceLinksModel", "takesQueue", "(I)I"⟩, 13) := ⟨⟨by decide +kernel, by decide +kernel⟩, List.mem_of_getElem? (i := 1034) (by decide +kernel), List.mem_of_getElem? (i := 1144) (by decide +kernel), List.mem_of_getElem? (i := 1145) (by decide +kernel)⟩
theorem lw_p49 : lw_okq (⟨"SpaceLinksModel", "putsEnd", "(III)V"⟩, 13) := ⟨⟨by decide +kernel, by decide +kernel⟩, List.mem_of_getElem? (i := 1034) (by decide +kernel), List.mem_of_getElem? (i := 1148) (by decide +kernel), List.mem_of_getElem? (i := 1149) (by decide +kernel)⟩
theorem lw_p50 : lw_okq (⟨"SpaceLinksModel", "isMark", "(I)Z"⟩, 13) := ⟨⟨by decide +kernel, by decide +kernel⟩, List.mem_of_getElem? (i := 1034) (by decide +kernel), List.mem_of_getElem? (i := 1152) (by decide +kernel), List.mem_of_getElem? (i := 1153) (by decide +kernel)⟩
theorem lw_p51 : lw_okq (⟨"SpaceLinksModel", "moreEnd", "(II)V"⟩, 13) := ⟨⟨by decide +kernel, by decide +kernel⟩, List.mem_of_getElem? (i := 1034) (by decide +kernel), List.mem_of_getElem? (i := 1156) (by decide +kernel), List.mem_of_getElem? (i := 1157) (by decide +kernel)⟩
theorem lw_p52 : lw_okq (⟨"SpaceLinksModel", "otherOf", "(I)I"⟩, 13) := ⟨⟨by decide +kernel, by decide +kernel⟩, List.mem_of_getElem? (i := 1034) (by decide +kernel), List.mem_of_getElem? (i := 1164) (by decide +kernel), List.mem_of_getElem? (i := 1165) (by decide +kernel)⟩
theorem lw_p53 : lw_okq (⟨"SpaceLinksModel", "turns", "(IZ)Z"⟩, 13) := ⟨⟨by decide +kernel, by decide +kernel⟩, List.mem_of_getElem? (i := 1034) (by decide +kernel), List.mem_of_getElem? (i := 1176) (by decide +kernel), List.mem_of_getElem? (i := 1177) (by decide +kernel)⟩
theorem lw_p54 : lw_okq (⟨"SpaceLinksModel", "isIn", "(III)Z"⟩, 13) := ⟨⟨by decide +kernel, by decide +kernel⟩, List.mem_of_getElem? (i := 1034) (by decide +kernel), List.mem_of_getElem? (i := 1184) (by decide +kernel), List.mem_of_getElem? (i := 1185) (by decide +kernel)⟩
theorem lw_p55 : lw_okq (⟨"SpaceLinksModel", "isRouter", "(I)Z"⟩, 13) := ⟨⟨by decide +kernel, by decide +kernel⟩, List.mem_of_getElem? (i := 1034) (by decide +kernel), List.mem_of_getElem? (i := 1200) (by decide +kernel), List.mem_of_getElem? (i := 1201) (by decide +kernel)⟩
theorem lw_p56 : lw_okq (⟨"SpaceLinksModel", "isAddress", "(I)Z"⟩, 13) := ⟨⟨by decide +kernel, by decide +kernel⟩, List.mem_of_getElem? (i := 1034) (by decide +kernel), List.mem_of_getElem? (i := 1204) (by decide +kernel), List.mem_of_getElem? (i := 1205) (by decide +kernel)⟩
theorem lw_p57 : lw_okq (⟨"SpaceLinksModel", "arePorts", "(I)Z"⟩, 13) := ⟨⟨by decide +kernel, by decide +kernel⟩, List.mem_of_getElem? (i := 1034) (by decide +kernel), List.mem_of_getElem? (i := 1208) (by decide +kernel), List.mem_of_getElem? (i := 1209) (by decide +kernel)⟩
theorem lw_p58 : lw_okq (⟨"SpaceLinksModel", "tables", "(IIIZ)V"⟩, 13) := ⟨⟨by decide +kernel, by decide +kernel⟩, List.mem_of_getElem? (i := 1034) (by decide +kernel), List.mem_of_getElem? (i := 1212) (by decide +kernel), List.mem_of_getElem? (i := 1213) (by decide +kernel)⟩
theorem lw_p59 : lw_okq (⟨"SpaceLinksModel", "putsRouter", "(III)V"⟩, 13) := ⟨⟨by decide +kernel, by decide +kernel⟩, List.mem_of_getElem? (i := 1034) (by decide +kernel), List.mem_of_getElem? (i := 1216) (by decide +kernel), List.mem_of_getElem? (i := 1217) (by decide +kernel)⟩
theorem lw_p60 : lw_okq (⟨"SpaceLinksModel", "isEnd", "(I)Z"⟩, 13) := ⟨⟨by decide +kernel, by decide +kernel⟩, List.mem_of_getElem? (i := 1034) (by decide +kernel), List.mem_of_getElem? (i := 1224) (by decide +kernel), List.mem_of_getElem? (i := 1225) (by decide +kernel)⟩
theorem lw_p61 : lw_okq (⟨"SpaceLinksModel", "ticks", "()V"⟩, 13) := ⟨⟨by decide +kernel, by decide +kernel⟩, List.mem_of_getElem? (i := 1034) (by decide +kernel), List.mem_of_getElem? (i := 1233) (by decide +kernel), List.mem_of_getElem? (i := 1234) (by decide +kernel)⟩
theorem lw_p62 : lw_okq (⟨"SpaceLinksModel", "hearsAll", "()V"⟩, 13) := ⟨⟨by decide +kernel, by decide +kernel⟩, List.mem_of_getElem? (i := 1034) (by decide +kernel), List.mem_of_getElem? (i := 1237) (by decide +kernel), List.mem_of_getElem? (i := 1238) (by decide +kernel)⟩
theorem lw_p63 : lw_okq (⟨"SpaceLinksModel", "hears", "(II)V"⟩, 13) := ⟨⟨by decide +kernel, by decide +kernel⟩, List.mem_of_getElem? (i := 1034) (by decide +kernel), List.mem_of_getElem? (i := 1241) (by decide +kernel), List.mem_of_getElem? (i := 1242) (by decide +kernel)⟩
def lw_privs_4 : List (MethodName × Nat) := [(⟨"SpaceLinksModel", "takesQueue", "(I)I"⟩, 13), (⟨"SpaceLinksModel", "putsEnd", "(III)V"⟩, 13), (⟨"SpaceLinksModel", "isMark", "(I)Z"⟩, 13), (⟨"SpaceLinksModel", "moreEnd", "(II)V"⟩, 13), (⟨"SpaceLinksModel", "otherOf", "(I)I"⟩, 13), (⟨"SpaceLinksModel", "turns", "(IZ)Z"⟩, 13), (⟨"SpaceLinksModel", "isIn", "(III)Z"⟩, 13), (⟨"SpaceLinksModel", "isRouter", "(I)Z"⟩, 13), (⟨"SpaceLinksModel", "isAddress", "(I)Z"⟩, 13), (⟨"SpaceLinksModel", "arePorts", "(I)Z"⟩, 13), (⟨"SpaceLinksModel", "tables", "(IIIZ)V"⟩, 13), (⟨"SpaceLinksModel", "putsRouter", "(III)V"⟩, 13), (⟨"SpaceLinksModel", "isEnd", "(I)Z"⟩, 13), (⟨"SpaceLinksModel", "ticks", "()V"⟩, 13), (⟨"SpaceLinksModel", "hearsAll", "()V"⟩, 13), (⟨"SpaceLinksModel", "hears", "(II)V"⟩, 13)]
theorem lw_r4 : ∀ q ∈ lw_privs_4, lw_okq q := List.forall_mem_cons.mpr ⟨lw_p48, List.forall_mem_cons.mpr ⟨lw_p49, List.forall_mem_cons.mpr ⟨lw_p50, List.forall_mem_cons.mpr ⟨lw_p51, List.forall_mem_cons.mpr ⟨lw_p52, List.forall_mem_cons.mpr ⟨lw_p53, List.forall_mem_cons.mpr ⟨lw_p54, List.forall_mem_cons.mpr ⟨lw_p55, List.forall_mem_cons.mpr ⟨lw_p56, List.forall_mem_cons.mpr ⟨lw_p57, List.forall_mem_cons.mpr ⟨lw_p58, List.forall_mem_cons.mpr ⟨lw_p59, List.forall_mem_cons.mpr ⟨lw_p60, List.forall_mem_cons.mpr ⟨lw_p61, List.forall_mem_cons.mpr ⟨lw_p62, List.forall_mem_cons.mpr ⟨lw_p63, fun _ h => absurd h List.not_mem_nil⟩⟩⟩⟩⟩⟩⟩⟩⟩⟩⟩⟩⟩⟩⟩⟩
theorem lw_p64 : lw_okq (⟨"SpaceLinksModel", "draw", "()I"⟩, 13) := ⟨⟨by decide +kernel, by decide +kernel⟩, List.mem_of_getElem? (i := 1034) (by decide +kernel), List.mem_of_getElem? (i := 1245) (by decide +kernel), List.mem_of_getElem? (i := 1246) (by decide +kernel)⟩
theorem lw_p65 : lw_okq (⟨"SpaceLinksModel", "isData", "(I)Z"⟩, 13) := ⟨⟨by decide +kernel, by decide +kernel⟩, List.mem_of_getElem? (i := 1034) (by decide +kernel), List.mem_of_getElem? (i := 1251) (by decide +kernel), List.mem_of_getElem? (i := 1252) (by decide +kernel)⟩
theorem lw_p66 : lw_okq (⟨"SpaceLinksModel", "hearsData", "(II)V"⟩, 13) := ⟨⟨by decide +kernel, by decide +kernel⟩, List.mem_of_getElem? (i := 1034) (by decide +kernel), List.mem_of_getElem? (i := 1255) (by decide +kernel), List.mem_of_getElem? (i := 1256) (by decide +kernel)⟩
theorem lw_p67 : lw_okq (⟨"SpaceLinksModel", "comesToRouter", "(III)V"⟩, 13) := ⟨⟨by decide +kernel, by decide +kernel⟩, List.mem_of_getElem? (i := 1034) (by decide +kernel), List.mem_of_getElem? (i := 1259) (by decide +kernel), List.mem_of_getElem? (i := 1260) (by decide +kernel)⟩
theorem lw_p68 : lw_okq (⟨"SpaceLinksModel", "ofRouter", "(II)I"⟩, 13) := ⟨⟨by decide +kernel, by decide +kernel⟩, List.mem_of_getElem? (i := 1034) (by decide +kernel), List.mem_of_getElem? (i := 1263) (by decide +kernel), List.mem_of_getElem? (i := 1264) (by decide +kernel)⟩
theorem lw_p69 : lw_okq (⟨"SpaceLinksModel", "moreRouter", "(II)V"⟩, 13) := ⟨⟨by decide +kernel, by decide +kernel⟩, List.mem_of_getElem? (i := 1034) (by decide +kernel), List.mem_of_getElem? (i := 1267) (by decide +kernel), List.mem_of_getElem? (i := 1268) (by decide +kernel)⟩
theorem lw_p70 : lw_okq (⟨"SpaceLinksModel", "comesToEnd", "(II)V"⟩, 13) := ⟨⟨by decide +kernel, by decide +kernel⟩, List.mem_of_getElem? (i := 1034) (by decide +kernel), List.mem_of_getElem? (i := 1271) (by decide +kernel), List.mem_of_getElem? (i := 1272) (by decide +kernel)⟩
theorem lw_p71 : lw_okq (⟨"SpaceLinksModel", "grows", "(I)V"⟩, 13) := ⟨⟨by decide +kernel, by decide +kernel⟩, List.mem_of_getElem? (i := 1034) (by decide +kernel), List.mem_of_getElem? (i := 1275) (by decide +kernel), List.mem_of_getElem? (i := 1276) (by decide +kernel)⟩
theorem lw_p72 : lw_okq (⟨"SpaceLinksModel", "routesAll", "(I)V"⟩, 13) := ⟨⟨by decide +kernel, by decide +kernel⟩, List.mem_of_getElem? (i := 1034) (by decide +kernel), List.mem_of_getElem? (i := 1279) (by decide +kernel), List.mem_of_getElem? (i := 1280) (by decide +kernel)⟩
theorem lw_p73 : lw_okq (⟨"SpaceLinksModel", "looksAt", "(I)V"⟩, 13) := ⟨⟨by decide +kernel, by decide +kernel⟩, List.mem_of_getElem? (i := 1034) (by decide +kernel), List.mem_of_getElem? (i := 1283) (by decide +kernel), List.mem_of_getElem? (i := 1284) (by decide +kernel)⟩
theorem lw_p74 : lw_okq (⟨"SpaceLinksModel", "spillsAhead", "(I)V"⟩, 13) := ⟨⟨by decide +kernel, by decide +kernel⟩, List.mem_of_getElem? (i := 1034) (by decide +kernel), List.mem_of_getElem? (i := 1287) (by decide +kernel), List.mem_of_getElem? (i := 1288) (by decide +kernel)⟩
theorem lw_p75 : lw_okq (⟨"SpaceLinksModel", "takes", "(I)I"⟩, 13) := ⟨⟨by decide +kernel, by decide +kernel⟩, List.mem_of_getElem? (i := 1034) (by decide +kernel), List.mem_of_getElem? (i := 1291) (by decide +kernel), List.mem_of_getElem? (i := 1292) (by decide +kernel)⟩
theorem lw_p76 : lw_okq (⟨"SpaceLinksModel", "spillsOne", "(II)V"⟩, 13) := ⟨⟨by decide +kernel, by decide +kernel⟩, List.mem_of_getElem? (i := 1034) (by decide +kernel), List.mem_of_getElem? (i := 1295) (by decide +kernel), List.mem_of_getElem? (i := 1296) (by decide +kernel)⟩
theorem lw_p77 : lw_okq (⟨"SpaceLinksModel", "does", "(I)Z"⟩, 13) := ⟨⟨by decide +kernel, by decide +kernel⟩, List.mem_of_getElem? (i := 1034) (by decide +kernel), List.mem_of_getElem? (i := 1299) (by decide +kernel), List.mem_of_getElem? (i := 1300) (by decide +kernel)⟩
theorem lw_p78 : lw_okq (⟨"SpaceLinksModel", "writes", "(IIII)Z"⟩, 13) := ⟨⟨by decide +kernel, by decide +kernel⟩, List.mem_of_getElem? (i := 1034) (by decide +kernel), List.mem_of_getElem? (i := 1303) (by decide +kernel), List.mem_of_getElem? (i := 1304) (by decide +kernel)⟩
theorem lw_p79 : lw_okq (⟨"SpaceLinksModel", "meant", "(II)I"⟩, 13) := ⟨⟨by decide +kernel, by decide +kernel⟩, List.mem_of_getElem? (i := 1034) (by decide +kernel), List.mem_of_getElem? (i := 1307) (by decide +kernel), List.mem_of_getElem? (i := 1308) (by decide +kernel)⟩
def lw_privs_5 : List (MethodName × Nat) := [(⟨"SpaceLinksModel", "draw", "()I"⟩, 13), (⟨"SpaceLinksModel", "isData", "(I)Z"⟩, 13), (⟨"SpaceLinksModel", "hearsData", "(II)V"⟩, 13), (⟨"SpaceLinksModel", "comesToRouter", "(III)V"⟩, 13), (⟨"SpaceLinksModel", "ofRouter", "(II)I"⟩, 13), (⟨"SpaceLinksModel", "moreRouter", "(II)V"⟩, 13), (⟨"SpaceLinksModel", "comesToEnd", "(II)V"⟩, 13), (⟨"SpaceLinksModel", "grows", "(I)V"⟩, 13), (⟨"SpaceLinksModel", "routesAll", "(I)V"⟩, 13), (⟨"SpaceLinksModel", "looksAt", "(I)V"⟩, 13), (⟨"SpaceLinksModel", "spillsAhead", "(I)V"⟩, 13), (⟨"SpaceLinksModel", "takes", "(I)I"⟩, 13), (⟨"SpaceLinksModel", "spillsOne", "(II)V"⟩, 13), (⟨"SpaceLinksModel", "does", "(I)Z"⟩, 13), (⟨"SpaceLinksModel", "writes", "(IIII)Z"⟩, 13), (⟨"SpaceLinksModel", "meant", "(II)I"⟩, 13)]
theorem lw_r5 : ∀ q ∈ lw_privs_5, lw_okq q := List.forall_mem_cons.mpr ⟨lw_p64, List.forall_mem_cons.mpr ⟨lw_p65, List.forall_mem_cons.mpr ⟨lw_p66, List.forall_mem_cons.mpr ⟨lw_p67, List.forall_mem_cons.mpr ⟨lw_p68, List.forall_mem_cons.mpr ⟨lw_p69, List.forall_mem_cons.mpr ⟨lw_p70, List.forall_mem_cons.mpr ⟨lw_p71, List.forall_mem_cons.mpr ⟨lw_p72, List.forall_mem_cons.mpr ⟨lw_p73, List.forall_mem_cons.mpr ⟨lw_p74, List.forall_mem_cons.mpr ⟨lw_p75, List.forall_mem_cons.mpr ⟨lw_p76, List.forall_mem_cons.mpr ⟨lw_p77, List.forall_mem_cons.mpr ⟨lw_p78, List.forall_mem_cons.mpr ⟨lw_p79, fun _ h => absurd h List.not_mem_nil⟩⟩⟩⟩⟩⟩⟩⟩⟩⟩⟩⟩⟩⟩⟩⟩
theorem lw_p80 : lw_okq (⟨"SpaceLinksModel", "tableAt", "(II)I"⟩, 13) := ⟨⟨by decide +kernel, by decide +kernel⟩, List.mem_of_getElem? (i := 1034) (by decide +kernel), List.mem_of_getElem? (i := 1311) (by decide +kernel), List.mem_of_getElem? (i := 1312) (by decide +kernel)⟩
theorem lw_p81 : lw_okq (⟨"SpaceLinksModel", "routes", "(II)V"⟩, 13) := ⟨⟨by decide +kernel, by decide +kernel⟩, List.mem_of_getElem? (i := 1034) (by decide +kernel), List.mem_of_getElem? (i := 1315) (by decide +kernel), List.mem_of_getElem? (i := 1316) (by decide +kernel)⟩
theorem lw_p82 : lw_okq (⟨"SpaceLinksModel", "leastOpen", "(II)I"⟩, 13) := ⟨⟨by decide +kernel, by decide +kernel⟩, List.mem_of_getElem? (i := 1034) (by decide +kernel), List.mem_of_getElem? (i := 1319) (by decide +kernel), List.mem_of_getElem? (i := 1320) (by decide +kernel)⟩
theorem lw_p83 : lw_okq (⟨"SpaceLinksModel", "isOpen", "(II)Z"⟩, 13) := ⟨⟨by decide +kernel, by decide +kernel⟩, List.mem_of_getElem? (i := 1034) (by decide +kernel), List.mem_of_getElem? (i := 1323) (by decide +kernel), List.mem_of_getElem? (i := 1324) (by decide +kernel)⟩
theorem lw_p84 : lw_okq (⟨"SpaceLinksModel", "watchOf", "()I"⟩, 13) := ⟨⟨by decide +kernel, by decide +kernel⟩, List.mem_of_getElem? (i := 1034) (by decide +kernel), List.mem_of_getElem? (i := 1327) (by decide +kernel), List.mem_of_getElem? (i := 1328) (by decide +kernel)⟩
theorem lw_p85 : lw_okq (⟨"SpaceLinksModel", "cuts", "(I)V"⟩, 13) := ⟨⟨by decide +kernel, by decide +kernel⟩, List.mem_of_getElem? (i := 1034) (by decide +kernel), List.mem_of_getElem? (i := 1331) (by decide +kernel), List.mem_of_getElem? (i := 1332) (by decide +kernel)⟩
theorem lw_p86 : lw_okq (⟨"SpaceLinksModel", "takesAtEnd", "(I)V"⟩, 13) := ⟨⟨by decide +kernel, by decide +kernel⟩, List.mem_of_getElem? (i := 1034) (by decide +kernel), List.mem_of_getElem? (i := 1335) (by decide +kernel), List.mem_of_getElem? (i := 1336) (by decide +kernel)⟩
theorem lw_p87 : lw_okq (⟨"SpaceLinksModel", "sends", "(I)I"⟩, 13) := ⟨⟨by decide +kernel, by decide +kernel⟩, List.mem_of_getElem? (i := 1034) (by decide +kernel), List.mem_of_getElem? (i := 1339) (by decide +kernel), List.mem_of_getElem? (i := 1340) (by decide +kernel)⟩
theorem lw_p88 : lw_okq (⟨"SpaceLinksModel", "maySell", "(I)Z"⟩, 13) := ⟨⟨by decide +kernel, by decide +kernel⟩, List.mem_of_getElem? (i := 1034) (by decide +kernel), List.mem_of_getElem? (i := 1343) (by decide +kernel), List.mem_of_getElem? (i := 1344) (by decide +kernel)⟩
theorem lw_p89 : lw_okq (⟨"SpaceLinksModel", "sells", "(I)I"⟩, 13) := ⟨⟨by decide +kernel, by decide +kernel⟩, List.mem_of_getElem? (i := 1034) (by decide +kernel), List.mem_of_getElem? (i := 1347) (by decide +kernel), List.mem_of_getElem? (i := 1348) (by decide +kernel)⟩
theorem lw_p90 : lw_okq (⟨"SpaceLinksModel", "sendsInRun", "(I)I"⟩, 13) := ⟨⟨by decide +kernel, by decide +kernel⟩, List.mem_of_getElem? (i := 1034) (by decide +kernel), List.mem_of_getElem? (i := 1351) (by decide +kernel), List.mem_of_getElem? (i := 1352) (by decide +kernel)⟩
theorem lw_p91 : lw_okq (⟨"SpaceLinksModel", "nextData", "(I)I"⟩, 13) := ⟨⟨by decide +kernel, by decide +kernel⟩, List.mem_of_getElem? (i := 1034) (by decide +kernel), List.mem_of_getElem? (i := 1355) (by decide +kernel), List.mem_of_getElem? (i := 1356) (by decide +kernel)⟩
theorem lw_p92 : lw_okq (⟨"SpaceLinksModel", "watches", "(I)V"⟩, 13) := ⟨⟨by decide +kernel, by decide +kernel⟩, List.mem_of_getElem? (i := 1034) (by decide +kernel), List.mem_of_getElem? (i := 1359) (by decide +kernel), List.mem_of_getElem? (i := 1360) (by decide +kernel)⟩
theorem lw_p93 : lw_okq (⟨"SpaceLinksModel", "types", "(I)V"⟩, 13) := ⟨⟨by decide +kernel, by decide +kernel⟩, List.mem_of_getElem? (i := 1034) (by decide +kernel), List.mem_of_getElem? (i := 1367) (by decide +kernel), List.mem_of_getElem? (i := 1368) (by decide +kernel)⟩
theorem lw_p94 : lw_okq (⟨"SpaceLinksModel", "queues", "(II)V"⟩, 13) := ⟨⟨by decide +kernel, by decide +kernel⟩, List.mem_of_getElem? (i := 1034) (by decide +kernel), List.mem_of_getElem? (i := 1379) (by decide +kernel), List.mem_of_getElem? (i := 1380) (by decide +kernel)⟩
theorem lw_p95 : lw_okq (⟨"SpaceLinksModel", "copies", "([I[I)V"⟩, 13) := ⟨⟨by decide +kernel, by decide +kernel⟩, List.mem_of_getElem? (i := 1034) (by decide +kernel), List.mem_of_getElem? (i := 1387) (by decide +kernel), List.mem_of_getElem? (i := 1388) (by decide +kernel)⟩
def lw_privs_6 : List (MethodName × Nat) := [(⟨"SpaceLinksModel", "tableAt", "(II)I"⟩, 13), (⟨"SpaceLinksModel", "routes", "(II)V"⟩, 13), (⟨"SpaceLinksModel", "leastOpen", "(II)I"⟩, 13), (⟨"SpaceLinksModel", "isOpen", "(II)Z"⟩, 13), (⟨"SpaceLinksModel", "watchOf", "()I"⟩, 13), (⟨"SpaceLinksModel", "cuts", "(I)V"⟩, 13), (⟨"SpaceLinksModel", "takesAtEnd", "(I)V"⟩, 13), (⟨"SpaceLinksModel", "sends", "(I)I"⟩, 13), (⟨"SpaceLinksModel", "maySell", "(I)Z"⟩, 13), (⟨"SpaceLinksModel", "sells", "(I)I"⟩, 13), (⟨"SpaceLinksModel", "sendsInRun", "(I)I"⟩, 13), (⟨"SpaceLinksModel", "nextData", "(I)I"⟩, 13), (⟨"SpaceLinksModel", "watches", "(I)V"⟩, 13), (⟨"SpaceLinksModel", "types", "(I)V"⟩, 13), (⟨"SpaceLinksModel", "queues", "(II)V"⟩, 13), (⟨"SpaceLinksModel", "copies", "([I[I)V"⟩, 13)]
theorem lw_r6 : ∀ q ∈ lw_privs_6, lw_okq q := List.forall_mem_cons.mpr ⟨lw_p80, List.forall_mem_cons.mpr ⟨lw_p81, List.forall_mem_cons.mpr ⟨lw_p82, List.forall_mem_cons.mpr ⟨lw_p83, List.forall_mem_cons.mpr ⟨lw_p84, List.forall_mem_cons.mpr ⟨lw_p85, List.forall_mem_cons.mpr ⟨lw_p86, List.forall_mem_cons.mpr ⟨lw_p87, List.forall_mem_cons.mpr ⟨lw_p88, List.forall_mem_cons.mpr ⟨lw_p89, List.forall_mem_cons.mpr ⟨lw_p90, List.forall_mem_cons.mpr ⟨lw_p91, List.forall_mem_cons.mpr ⟨lw_p92, List.forall_mem_cons.mpr ⟨lw_p93, List.forall_mem_cons.mpr ⟨lw_p94, List.forall_mem_cons.mpr ⟨lw_p95, fun _ h => absurd h List.not_mem_nil⟩⟩⟩⟩⟩⟩⟩⟩⟩⟩⟩⟩⟩⟩⟩⟩
theorem lw_p96 : lw_okq (⟨"SpaceLinksModel", "behindBlanks", "()I"⟩, 13) := ⟨⟨by decide +kernel, by decide +kernel⟩, List.mem_of_getElem? (i := 1034) (by decide +kernel), List.mem_of_getElem? (i := 1391) (by decide +kernel), List.mem_of_getElem? (i := 1392) (by decide +kernel)⟩
theorem lw_p97 : lw_okq (⟨"SpaceLinksModel", "here", "()I"⟩, 13) := ⟨⟨by decide +kernel, by decide +kernel⟩, List.mem_of_getElem? (i := 1034) (by decide +kernel), List.mem_of_getElem? (i := 1395) (by decide +kernel), List.mem_of_getElem? (i := 1396) (by decide +kernel)⟩
theorem lw_p98 : lw_okq (⟨"SpaceLinksModel", "takesWord", "(Ljava/lang/String;)Z"⟩, 13) := ⟨⟨by decide +kernel, by decide +kernel⟩, List.mem_of_getElem? (i := 1034) (by decide +kernel), List.mem_of_getElem? (i := 1400) (by decide +kernel), List.mem_of_getElem? (i := 1401) (by decide +kernel)⟩
theorem lw_p99 : lw_okq (⟨"SpaceLinksModel", "letters", "()I"⟩, 13) := ⟨⟨by decide +kernel, by decide +kernel⟩, List.mem_of_getElem? (i := 1034) (by decide +kernel), List.mem_of_getElem? (i := 1404) (by decide +kernel), List.mem_of_getElem? (i := 1405) (by decide +kernel)⟩
theorem lw_p100 : lw_okq (⟨"SpaceLinksModel", "readCable", "()V"⟩, 13) := ⟨⟨by decide +kernel, by decide +kernel⟩, List.mem_of_getElem? (i := 1034) (by decide +kernel), List.mem_of_getElem? (i := 1410) (by decide +kernel), List.mem_of_getElem? (i := 1411) (by decide +kernel)⟩
theorem lw_p101 : lw_okq (⟨"SpaceLinksModel", "readSocket", "(I)I"⟩, 13) := ⟨⟨by decide +kernel, by decide +kernel⟩, List.mem_of_getElem? (i := 1034) (by decide +kernel), List.mem_of_getElem? (i := 1414) (by decide +kernel), List.mem_of_getElem? (i := 1415) (by decide +kernel)⟩
theorem lw_p102 : lw_okq (⟨"SpaceLinksModel", "number", "(II)I"⟩, 13) := ⟨⟨by decide +kernel, by decide +kernel⟩, List.mem_of_getElem? (i := 1034) (by decide +kernel), List.mem_of_getElem? (i := 1419) (by decide +kernel), List.mem_of_getElem? (i := 1420) (by decide +kernel)⟩
theorem lw_p103 : lw_okq (⟨"SpaceLinksModel", "isDigit", "(I)Z"⟩, 13) := ⟨⟨by decide +kernel, by decide +kernel⟩, List.mem_of_getElem? (i := 1034) (by decide +kernel), List.mem_of_getElem? (i := 1423) (by decide +kernel), List.mem_of_getElem? (i := 1424) (by decide +kernel)⟩
theorem lw_p104 : lw_okq (⟨"SpaceLinksModel", "errs", "(II)I"⟩, 13) := ⟨⟨by decide +kernel, by decide +kernel⟩, List.mem_of_getElem? (i := 1034) (by decide +kernel), List.mem_of_getElem? (i := 1427) (by decide +kernel), List.mem_of_getElem? (i := 1428) (by decide +kernel)⟩
theorem lw_p105 : lw_okq (⟨"SpaceLinksModel", "sign", "(I)V"⟩, 13) := ⟨⟨by decide +kernel, by decide +kernel⟩, List.mem_of_getElem? (i := 1034) (by decide +kernel), List.mem_of_getElem? (i := 1431) (by decide +kernel), List.mem_of_getElem? (i := 1432) (by decide +kernel)⟩
theorem lw_p106 : lw_okq (⟨"SpaceLinksModel", "readTable", "()V"⟩, 13) := ⟨⟨by decide +kernel, by decide +kernel⟩, List.mem_of_getElem? (i := 1034) (by decide +kernel), List.mem_of_getElem? (i := 1436) (by decide +kernel), List.mem_of_getElem? (i := 1437) (by decide +kernel)⟩
theorem lw_p107 : lw_okq (⟨"SpaceLinksModel", "isPort", "(I)Z"⟩, 13) := ⟨⟨by decide +kernel, by decide +kernel⟩, List.mem_of_getElem? (i := 1034) (by decide +kernel), List.mem_of_getElem? (i := 1462) (by decide +kernel), List.mem_of_getElem? (i := 1463) (by decide +kernel)⟩
theorem lw_p108 : lw_okq (⟨"SpaceLinksModel", "tablesOf", "(I)I"⟩, 13) := ⟨⟨by decide +kernel, by decide +kernel⟩, List.mem_of_getElem? (i := 1034) (by decide +kernel), List.mem_of_getElem? (i := 1470) (by decide +kernel), List.mem_of_getElem? (i := 1471) (by decide +kernel)⟩
theorem lw_p109 : lw_okq (⟨"SpaceLinksModel", "packetAt", "(II)I"⟩, 13) := ⟨⟨by decide +kernel, by decide +kernel⟩, List.mem_of_getElem? (i := 1034) (by decide +kernel), List.mem_of_getElem? (i := 1486) (by decide +kernel), List.mem_of_getElem? (i := 1487) (by decide +kernel)⟩
theorem lw_p110 : lw_okq (⟨"SpaceLinksModel", "laysHops", "(I)V"⟩, 13) := ⟨⟨by decide +kernel, by decide +kernel⟩, List.mem_of_getElem? (i := 1034) (by decide +kernel), List.mem_of_getElem? (i := 1498) (by decide +kernel), List.mem_of_getElem? (i := 1499) (by decide +kernel)⟩
theorem lw_p111 : lw_okq (⟨"SpaceLinksModel", "onward", "(II)I"⟩, 13) := ⟨⟨by decide +kernel, by decide +kernel⟩, List.mem_of_getElem? (i := 1034) (by decide +kernel), List.mem_of_getElem? (i := 1502) (by decide +kernel), List.mem_of_getElem? (i := 1503) (by decide +kernel)⟩
def lw_privs_7 : List (MethodName × Nat) := [(⟨"SpaceLinksModel", "behindBlanks", "()I"⟩, 13), (⟨"SpaceLinksModel", "here", "()I"⟩, 13), (⟨"SpaceLinksModel", "takesWord", "(Ljava/lang/String;)Z"⟩, 13), (⟨"SpaceLinksModel", "letters", "()I"⟩, 13), (⟨"SpaceLinksModel", "readCable", "()V"⟩, 13), (⟨"SpaceLinksModel", "readSocket", "(I)I"⟩, 13), (⟨"SpaceLinksModel", "number", "(II)I"⟩, 13), (⟨"SpaceLinksModel", "isDigit", "(I)Z"⟩, 13), (⟨"SpaceLinksModel", "errs", "(II)I"⟩, 13), (⟨"SpaceLinksModel", "sign", "(I)V"⟩, 13), (⟨"SpaceLinksModel", "readTable", "()V"⟩, 13), (⟨"SpaceLinksModel", "isPort", "(I)Z"⟩, 13), (⟨"SpaceLinksModel", "tablesOf", "(I)I"⟩, 13), (⟨"SpaceLinksModel", "packetAt", "(II)I"⟩, 13), (⟨"SpaceLinksModel", "laysHops", "(I)V"⟩, 13), (⟨"SpaceLinksModel", "onward", "(II)I"⟩, 13)]
theorem lw_r7 : ∀ q ∈ lw_privs_7, lw_okq q := List.forall_mem_cons.mpr ⟨lw_p96, List.forall_mem_cons.mpr ⟨lw_p97, List.forall_mem_cons.mpr ⟨lw_p98, List.forall_mem_cons.mpr ⟨lw_p99, List.forall_mem_cons.mpr ⟨lw_p100, List.forall_mem_cons.mpr ⟨lw_p101, List.forall_mem_cons.mpr ⟨lw_p102, List.forall_mem_cons.mpr ⟨lw_p103, List.forall_mem_cons.mpr ⟨lw_p104, List.forall_mem_cons.mpr ⟨lw_p105, List.forall_mem_cons.mpr ⟨lw_p106, List.forall_mem_cons.mpr ⟨lw_p107, List.forall_mem_cons.mpr ⟨lw_p108, List.forall_mem_cons.mpr ⟨lw_p109, List.forall_mem_cons.mpr ⟨lw_p110, List.forall_mem_cons.mpr ⟨lw_p111, fun _ h => absurd h List.not_mem_nil⟩⟩⟩⟩⟩⟩⟩⟩⟩⟩⟩⟩⟩⟩⟩⟩
theorem lw_p112 : lw_okq (⟨"SpaceLinksModel", "reaches", "(II)I"⟩, 13) := ⟨⟨by decide +kernel, by decide +kernel⟩, List.mem_of_getElem? (i := 1034) (by decide +kernel), List.mem_of_getElem? (i := 1510) (by decide +kernel), List.mem_of_getElem? (i := 1511) (by decide +kernel)⟩
theorem lw_p113 : lw_okq (⟨"SpaceLinksModel", "onTo", "(II)I"⟩, 13) := ⟨⟨by decide +kernel, by decide +kernel⟩, List.mem_of_getElem? (i := 1034) (by decide +kernel), List.mem_of_getElem? (i := 1514) (by decide +kernel), List.mem_of_getElem? (i := 1515) (by decide +kernel)⟩
theorem lw_p114 : lw_okq (⟨"SpaceLinksModel", "isSold", "(II)Z"⟩, 13) := ⟨⟨by decide +kernel, by decide +kernel⟩, List.mem_of_getElem? (i := 1034) (by decide +kernel), List.mem_of_getElem? (i := 1534) (by decide +kernel), List.mem_of_getElem? (i := 1535) (by decide +kernel)⟩
theorem lw_p115 : lw_okq (⟨"SpaceLinksModel", "cables", "(Z)I"⟩, 13) := ⟨⟨by decide +kernel, by decide +kernel⟩, List.mem_of_getElem? (i := 1034) (by decide +kernel), List.mem_of_getElem? (i := 1546) (by decide +kernel), List.mem_of_getElem? (i := 1547) (by decide +kernel)⟩
theorem lw_p116 : lw_okq (⟨"SpaceLinksModel", "running", "()I"⟩, 13) := ⟨⟨by decide +kernel, by decide +kernel⟩, List.mem_of_getElem? (i := 1034) (by decide +kernel), List.mem_of_getElem? (i := 1550) (by decide +kernel), List.mem_of_getElem? (i := 1551) (by decide +kernel)⟩
theorem lw_p117 : lw_okq (⟨"SpaceLinksModel", "sumOfEnds", "(I)I"⟩, 13) := ⟨⟨by decide +kernel, by decide +kernel⟩, List.mem_of_getElem? (i := 1034) (by decide +kernel), List.mem_of_getElem? (i := 1554) (by decide +kernel), List.mem_of_getElem? (i := 1555) (by decide +kernel)⟩
theorem lw_p118 : lw_okq (⟨"SpaceLinksModel", "sumOf", "(I)I"⟩, 13) := ⟨⟨by decide +kernel, by decide +kernel⟩, List.mem_of_getElem? (i := 1034) (by decide +kernel), List.mem_of_getElem? (i := 1558) (by decide +kernel), List.mem_of_getElem? (i := 1559) (by decide +kernel)⟩
def lw_privs_8 : List (MethodName × Nat) := [(⟨"SpaceLinksModel", "reaches", "(II)I"⟩, 13), (⟨"SpaceLinksModel", "onTo", "(II)I"⟩, 13), (⟨"SpaceLinksModel", "isSold", "(II)Z"⟩, 13), (⟨"SpaceLinksModel", "cables", "(Z)I"⟩, 13), (⟨"SpaceLinksModel", "running", "()I"⟩, 13), (⟨"SpaceLinksModel", "sumOfEnds", "(I)I"⟩, 13), (⟨"SpaceLinksModel", "sumOf", "(I)I"⟩, 13)]
theorem lw_r8 : ∀ q ∈ lw_privs_8, lw_okq q := List.forall_mem_cons.mpr ⟨lw_p112, List.forall_mem_cons.mpr ⟨lw_p113, List.forall_mem_cons.mpr ⟨lw_p114, List.forall_mem_cons.mpr ⟨lw_p115, List.forall_mem_cons.mpr ⟨lw_p116, List.forall_mem_cons.mpr ⟨lw_p117, List.forall_mem_cons.mpr ⟨lw_p118, fun _ h => absurd h List.not_mem_nil⟩⟩⟩⟩⟩⟩⟩
def lw_privs : List (MethodName × Nat) := lw_privs_1 ++ (lw_privs_2 ++ (lw_privs_3 ++ (lw_privs_4 ++ (lw_privs_5 ++ (lw_privs_6 ++ (lw_privs_7 ++ (lw_privs_8)))))))
def lw_tbl : List Cond := k2_sels lw_privs ++ tables_1
theorem lw_privs_ok : ∀ q ∈ lw_privs, lw_okq q := by
  show ∀ q ∈ lw_privs_1 ++ (lw_privs_2 ++ (lw_privs_3 ++ (lw_privs_4 ++ (lw_privs_5 ++ (lw_privs_6 ++ (lw_privs_7 ++ (lw_privs_8))))))), lw_okq q
  exact List.forall_mem_append.mpr ⟨lw_r1, List.forall_mem_append.mpr ⟨lw_r2, List.forall_mem_append.mpr ⟨lw_r3, List.forall_mem_append.mpr ⟨lw_r4, List.forall_mem_append.mpr ⟨lw_r5, List.forall_mem_append.mpr ⟨lw_r6, List.forall_mem_append.mpr ⟨lw_r7, lw_r8⟩⟩⟩⟩⟩⟩⟩
end
section
/-! ===== BEGIN words of one list among another's, by their places ===== -/
theorem goodIn_r {big : List Cond} (ws : List Cond) (ps : List Nat) (hp : ws = ps.filterMap (fun i => big[i]?)) (h : ws.all goodWord = true) : GoodIn big ws := by
  intro w hw
  have h1 := List.all_eq_true.mp h w hw
  rw [hp] at hw
  obtain ⟨i, -, hi⟩ := List.mem_filterMap.mp hw
  have hm : w ∈ big := by first | exact List.mem_of_getElem? hi | exact List.getElem?_mem hi
  exact ⟨hm, good_of_word h1⟩
theorem goodIn_app {big a b : List Cond} (ha : GoodIn big a) (hb : GoodIn big b) : GoodIn big (a ++ b) := fun w h => (List.mem_append.mp h).elim (ha w) (hb w)
theorem goodIn_ca {big a b : List Cond} {c : Cond} (ha : GoodIn big (c :: a)) (hb : GoodIn big b) : GoodIn big (c :: (a ++ b)) := fun w h => (List.mem_cons.mp h).elim (fun e => ha w (List.mem_cons.mpr (Or.inl e))) (fun h => (List.mem_append.mp h).elim (fun h => ha w (List.mem_cons.mpr (Or.inr h))) (hb w))
theorem goodIn_sub {big ws : List Cond} (hm : ∀ w ∈ ws, w ∈ big) (h : ws.all goodWord = true) : GoodIn big ws := fun w hw => ⟨hm w hw, good_of_word (List.all_eq_true.mp h w hw)⟩
/-! ===== END ===== -/

/-! ===== BEGIN printed: names, fields, word lists, decode rows ===== -/
def RX0 : String := "SpaceLinks$Clock"
def TX0 : u_T := fun k => match k with
  | 0 => ("SpaceLinks$Clock", "time", "I", false)
  | 1 => ("SpaceLinks$Clock", "steps", "I", false)
  | _ => ("SpaceLinks$Clock", "jumps", "I", false)
def tyX0 : Nat → FieldType := fun k => match k with
  | 0 => .int
  | 1 => .int
  | _ => .int
abbrev wsX00 : List Cond := u_ws RX0 TX0 3
theorem nmX0 : ∀ a, a < 3 → ∀ b, b < 3 → a ≠ b → (TX0 a).2.1 ≠ (TX0 b).2.1 := by decide +kernel
theorem tyX0_ok : ∀ k, k < 3 → parseFieldDescriptor (TX0 k).2.2.1 = some (tyX0 k) := by decide +kernel
abbrev cX0_init : ByteArray := prog_2_method_1_code
def yX0_init : MethodName := ⟨RX0, "<init>", "()V"⟩
abbrev cX0_copyFrom : ByteArray := prog_2_method_2_code
def yX0_copyFrom : MethodName := ⟨RX0, "copyFrom", "(LSpaceLinks$Clock;)V"⟩
abbrev cX0_next : ByteArray := prog_2_method_3_code
def yX0_next : MethodName := ⟨RX0, "next", "()I"⟩
abbrev cX0_hears : ByteArray := prog_2_method_4_code
def yX0_hears : MethodName := ⟨RX0, "hears", "(I)Z"⟩
def RX1 : String := "SpaceLinks$End"
def TX1 : u_T := fun k => match k with
  | 0 => ("SpaceLinks$End", "queue", "LSpaceLinks$Row;", true)
  | 1 => ("SpaceLinks$End", "clock", "LSpaceLinks$Clock;", true)
  | 2 => ("SpaceLinks$End", "kept", "[LSpaceLinks$Packet;", true)
  | 3 => ("SpaceLinks$End", "coming", "LSpaceLinks$Packet;", false)
  | 4 => ("SpaceLinks$End", "holds", "Z", false)
  | 5 => ("SpaceLinks$End", "received", "I", false)
  | 6 => ("SpaceLinks$End", "receivedWhole", "I", false)
  | _ => ("SpaceLinks$End", "spilled", "I", false)
def tyX1 : Nat → FieldType := fun k => match k with
  | 0 => .object "SpaceLinks$Row"
  | 1 => .object "SpaceLinks$Clock"
  | 2 => .array (.object "SpaceLinks$Packet")
  | 3 => .object "SpaceLinks$Packet"
  | 4 => .boolean
  | 5 => .int
  | 6 => .int
  | _ => .int
abbrev wsX10 : List Cond := u_ws RX1 TX1 8
theorem nmX1 : ∀ a, a < 8 → ∀ b, b < 8 → a ≠ b → (TX1 a).2.1 ≠ (TX1 b).2.1 := by decide +kernel
theorem tyX1_ok : ∀ k, k < 8 → parseFieldDescriptor (TX1 k).2.2.1 = some (tyX1 k) := by decide +kernel
abbrev cX1_init : ByteArray := prog_3_method_1_code
def yX1_init : MethodName := ⟨RX1, "<init>", "()V"⟩
abbrev cX1_copyFrom : ByteArray := prog_3_method_2_code
def yX1_copyFrom : MethodName := ⟨RX1, "copyFrom", "(LSpaceLinks$End;)V"⟩
abbrev cX1_receive : ByteArray := prog_3_method_3_code
def yX1_receive : MethodName := ⟨RX1, "receive", "(ZI)V"⟩
abbrev cX1_keptAt : ByteArray := prog_3_method_4_code
def yX1_keptAt : MethodName := ⟨RX1, "keptAt", "(I)LSpaceLinks$Packet;"⟩
abbrev cX1_tell : ByteArray := prog_3_method_5_code
def yX1_tell : MethodName := ⟨RX1, "tell", "(I)I"⟩
def RX2 : String := "SpaceLinks$Input"
def TX2 : u_T := fun k => match k with
  | 0 => ("SpaceLinks$Input", "order", "[I", true)
  | 1 => ("SpaceLinks$Input", "ordered", "I", false)
  | 2 => ("SpaceLinks$Input", "ordering", "Z", false)
  | 3 => ("SpaceLinks$Input", "mode", "I", false)
  | 4 => ("SpaceLinks$Input", "to", "I", false)
  | 5 => ("SpaceLinks$Input", "from", "I", false)
  | _ => ("SpaceLinks$Input", "stuck", "I", false)
def tyX2 : Nat → FieldType := fun k => match k with
  | 0 => .array .int
  | 1 => .int
  | 2 => .boolean
  | 3 => .int
  | 4 => .int
  | 5 => .int
  | _ => .int
abbrev wsX20 : List Cond := u_ws RX2 TX2 7
theorem nmX2 : ∀ a, a < 7 → ∀ b, b < 7 → a ≠ b → (TX2 a).2.1 ≠ (TX2 b).2.1 := by decide +kernel
theorem tyX2_ok : ∀ k, k < 7 → parseFieldDescriptor (TX2 k).2.2.1 = some (tyX2 k) := by decide +kernel
abbrev cX2_init : ByteArray := prog_4_method_1_code
def yX2_init : MethodName := ⟨RX2, "<init>", "()V"⟩
abbrev cX2_copyFrom : ByteArray := prog_4_method_2_code
def yX2_copyFrom : MethodName := ⟨RX2, "copyFrom", "(LSpaceLinks$Input;)V"⟩
abbrev cX2_beginSpill : ByteArray := prog_4_method_3_code
def yX2_beginSpill : MethodName := ⟨RX2, "beginSpill", "(Z)V"⟩
abbrev cX2_beFree : ByteArray := prog_4_method_4_code
def yX2_beFree : MethodName := ⟨RX2, "beFree", "()V"⟩
abbrev cX2_keep : ByteArray := prog_4_method_5_code
def yX2_keep : MethodName := ⟨RX2, "keep", "(I)V"⟩
abbrev cX2_tell : ByteArray := prog_4_method_6_code
def yX2_tell : MethodName := ⟨RX2, "tell", "(I)I"⟩
def RX3 : String := "SpaceLinks$Log"
def TX3 : u_T := fun k => match k with
  | 0 => ("SpaceLinks$Log", "ticks", "[I", true)
  | 1 => ("SpaceLinks$Log", "whats", "[I", true)
  | 2 => ("SpaceLinks$Log", "sockets", "[I", true)
  | _ => ("SpaceLinks$Log", "came", "I", false)
def tyX3 : Nat → FieldType := fun k => match k with
  | 0 => .array .int
  | 1 => .array .int
  | 2 => .array .int
  | _ => .int
abbrev wsX30 : List Cond := u_ws RX3 TX3 4
theorem nmX3 : ∀ a, a < 4 → ∀ b, b < 4 → a ≠ b → (TX3 a).2.1 ≠ (TX3 b).2.1 := by decide +kernel
theorem tyX3_ok : ∀ k, k < 4 → parseFieldDescriptor (TX3 k).2.2.1 = some (tyX3 k) := by decide +kernel
abbrev cX3_init : ByteArray := prog_5_method_1_code
def yX3_init : MethodName := ⟨RX3, "<init>", "()V"⟩
abbrev cX3_copyFrom : ByteArray := prog_5_method_2_code
def yX3_copyFrom : MethodName := ⟨RX3, "copyFrom", "(LSpaceLinks$Log;)V"⟩
abbrev cX3_add : ByteArray := prog_5_method_3_code
def yX3_add : MethodName := ⟨RX3, "add", "(III)V"⟩
abbrev cX3_tell : ByteArray := prog_5_method_4_code
def yX3_tell : MethodName := ⟨RX3, "tell", "(II)I"⟩
def RX4 : String := "SpaceLinks$Packet"
def TX4 : u_T := fun k => match k with
  | 0 => ("SpaceLinks$Packet", "bytes", "[I", true)
  | 1 => ("SpaceLinks$Packet", "length", "I", false)
  | 2 => ("SpaceLinks$Packet", "whole", "Z", false)
  | _ => ("SpaceLinks$Packet", "tick", "I", false)
def tyX4 : Nat → FieldType := fun k => match k with
  | 0 => .array .int
  | 1 => .int
  | 2 => .boolean
  | _ => .int
abbrev wsX40 : List Cond := u_ws RX4 TX4 4
theorem nmX4 : ∀ a, a < 4 → ∀ b, b < 4 → a ≠ b → (TX4 a).2.1 ≠ (TX4 b).2.1 := by decide +kernel
theorem tyX4_ok : ∀ k, k < 4 → parseFieldDescriptor (TX4 k).2.2.1 = some (tyX4 k) := by decide +kernel
abbrev cX4_init : ByteArray := prog_6_method_1_code
def yX4_init : MethodName := ⟨RX4, "<init>", "()V"⟩
abbrev cX4_copyFrom : ByteArray := prog_6_method_2_code
def yX4_copyFrom : MethodName := ⟨RX4, "copyFrom", "(LSpaceLinks$Packet;)V"⟩
abbrev cX4_add : ByteArray := prog_6_method_3_code
def yX4_add : MethodName := ⟨RX4, "add", "(I)V"⟩
abbrev cX4_at : ByteArray := prog_6_method_4_code
def yX4_at : MethodName := ⟨RX4, "at", "(I)I"⟩
abbrev cX4_tell : ByteArray := prog_6_method_5_code
def yX4_tell : MethodName := ⟨RX4, "tell", "(I)I"⟩
def RX5 : String := "SpaceLinks$Paths"
def TX5 : u_T := fun k => match k with
  | _ => ("", "", "", false)
def tyX5 : Nat → FieldType := fun k => match k with
  | _ => .int
abbrev wsX50 : List Cond := u_ws RX5 TX5 0
theorem nmX5 : ∀ a, a < 0 → ∀ b, b < 0 → a ≠ b → (TX5 a).2.1 ≠ (TX5 b).2.1 := by decide +kernel
theorem tyX5_ok : ∀ k, k < 0 → parseFieldDescriptor (TX5 k).2.2.1 = some (tyX5 k) := by decide +kernel
abbrev cX5_wayPort : ByteArray := prog_7_method_2_code
def yX5_wayPort : MethodName := ⟨RX5, "wayPort", "(LSpaceLinks$World;III)I"⟩
abbrev cX5_cablesTo : ByteArray := prog_7_method_3_code
def yX5_cablesTo : MethodName := ⟨RX5, "cablesTo", "(LSpaceLinks$World;I)[I"⟩
abbrev cX5_portToward : ByteArray := prog_7_method_4_code
def yX5_portToward : MethodName := ⟨RX5, "portToward", "(LSpaceLinks$World;[III)I"⟩
abbrev cX5_routerAt : ByteArray := prog_7_method_5_code
def yX5_routerAt : MethodName := ⟨RX5, "routerAt", "(LSpaceLinks$World;I)I"⟩
abbrev cX5_endsOf : ByteArray := prog_7_method_6_code
def yX5_endsOf : MethodName := ⟨RX5, "endsOf", "(LSpaceLinks$World;II)I"⟩
abbrev cX5_comesAgain : ByteArray := prog_7_method_7_code
def yX5_comesAgain : MethodName := ⟨RX5, "comesAgain", "(LSpaceLinks$World;II)Z"⟩
abbrev cX5_routersBehind : ByteArray := prog_7_method_8_code
def yX5_routersBehind : MethodName := ⟨RX5, "routersBehind", "(LSpaceLinks$World;II)I"⟩
abbrev cX5_isMeant : ByteArray := prog_7_method_9_code
def yX5_isMeant : MethodName := ⟨RX5, "isMeant", "(LSpaceLinks$World;II)Z"⟩
def RX6 : String := "SpaceLinks$Router"
def TX6 : u_T := fun k => match k with
  | 0 => ("SpaceLinks$Router", "tables", "[I", true)
  | 1 => ("SpaceLinks$Router", "clock", "LSpaceLinks$Clock;", true)
  | 2 => ("SpaceLinks$Router", "turn", "I", false)
  | 3 => ("SpaceLinks$Router", "routed", "I", false)
  | 4 => ("SpaceLinks$Router", "taken", "I", false)
  | 5 => ("SpaceLinks$Router", "lost", "I", false)
  | 6 => ("SpaceLinks$Router", "cut", "I", false)
  | 7 => ("SpaceLinks$Router", "empty", "I", false)
  | 8 => ("SpaceLinks$Router", "written", "I", false)
  | _ => ("SpaceLinks$Router", "refused", "I", false)
def tyX6 : Nat → FieldType := fun k => match k with
  | 0 => .array .int
  | 1 => .object "SpaceLinks$Clock"
  | 2 => .int
  | 3 => .int
  | 4 => .int
  | 5 => .int
  | 6 => .int
  | 7 => .int
  | 8 => .int
  | _ => .int
abbrev wsX60 : List Cond := u_ws RX6 TX6 10
theorem nmX6 : ∀ a, a < 10 → ∀ b, b < 10 → a ≠ b → (TX6 a).2.1 ≠ (TX6 b).2.1 := by decide +kernel
theorem tyX6_ok : ∀ k, k < 10 → parseFieldDescriptor (TX6 k).2.2.1 = some (tyX6 k) := by decide +kernel
abbrev cX6_init : ByteArray := prog_8_method_1_code
def yX6_init : MethodName := ⟨RX6, "<init>", "()V"⟩
abbrev cX6_copyFrom : ByteArray := prog_8_method_2_code
def yX6_copyFrom : MethodName := ⟨RX6, "copyFrom", "(LSpaceLinks$Router;)V"⟩
abbrev cX6_write : ByteArray := prog_8_method_3_code
def yX6_write : MethodName := ⟨RX6, "write", "(IIZ)Z"⟩
abbrev cX6_tableFor : ByteArray := prog_8_method_4_code
def yX6_tableFor : MethodName := ⟨RX6, "tableFor", "(I)I"⟩
abbrev cX6_meantBy : ByteArray := prog_8_method_5_code
def yX6_meantBy : MethodName := ⟨RX6, "meantBy", "(I)I"⟩
abbrev cX6_tablesThere : ByteArray := prog_8_method_6_code
def yX6_tablesThere : MethodName := ⟨RX6, "tablesThere", "()I"⟩
abbrev cX6_tell : ByteArray := prog_8_method_7_code
def yX6_tell : MethodName := ⟨RX6, "tell", "(I)I"⟩
def RX7 : String := "SpaceLinks$Row"
def TX7 : u_T := fun k => match k with
  | 0 => ("SpaceLinks$Row", "cells", "[I", true)
  | 1 => ("SpaceLinks$Row", "start", "I", false)
  | _ => ("SpaceLinks$Row", "count", "I", false)
def tyX7 : Nat → FieldType := fun k => match k with
  | 0 => .array .int
  | 1 => .int
  | _ => .int
abbrev wsX70 : List Cond := u_ws RX7 TX7 3
theorem nmX7 : ∀ a, a < 3 → ∀ b, b < 3 → a ≠ b → (TX7 a).2.1 ≠ (TX7 b).2.1 := by decide +kernel
theorem tyX7_ok : ∀ k, k < 3 → parseFieldDescriptor (TX7 k).2.2.1 = some (tyX7 k) := by decide +kernel
abbrev cX7_init : ByteArray := prog_9_method_1_code
def yX7_init : MethodName := ⟨RX7, "<init>", "(I)V"⟩
abbrev cX7_copyFrom : ByteArray := prog_9_method_2_code
def yX7_copyFrom : MethodName := ⟨RX7, "copyFrom", "(LSpaceLinks$Row;)V"⟩
abbrev cX7_at : ByteArray := prog_9_method_3_code
def yX7_at : MethodName := ⟨RX7, "at", "(I)I"⟩
abbrev cX7_add : ByteArray := prog_9_method_4_code
def yX7_add : MethodName := ⟨RX7, "add", "(I)V"⟩
abbrev cX7_take : ByteArray := prog_9_method_5_code
def yX7_take : MethodName := ⟨RX7, "take", "()I"⟩
abbrev cX7_dropPacket : ByteArray := prog_9_method_6_code
def yX7_dropPacket : MethodName := ⟨RX7, "dropPacket", "()V"⟩
def RX8 : String := "SpaceLinks$Side"
def TX8 : u_T := fun k => match k with
  | 0 => ("SpaceLinks$Side", "buffer", "LSpaceLinks$Row;", true)
  | 1 => ("SpaceLinks$Side", "state", "I", false)
  | 2 => ("SpaceLinks$Side", "age", "I", false)
  | 3 => ("SpaceLinks$Side", "quiet", "I", false)
  | 4 => ("SpaceLinks$Side", "other", "I", false)
  | 5 => ("SpaceLinks$Side", "whole", "Z", false)
  | 6 => ("SpaceLinks$Side", "on", "Z", false)
  | 7 => ("SpaceLinks$Side", "bought", "I", false)
  | 8 => ("SpaceLinks$Side", "sold", "I", false)
  | 9 => ("SpaceLinks$Side", "sent", "I", false)
  | 10 => ("SpaceLinks$Side", "timeToSend", "I", false)
  | 11 => ("SpaceLinks$Side", "owes", "Z", false)
  | 12 => ("SpaceLinks$Side", "answered", "Z", false)
  | 13 => ("SpaceLinks$Side", "cameOpen", "Z", false)
  | 14 => ("SpaceLinks$Side", "sentOpen", "Z", false)
  | 15 => ("SpaceLinks$Side", "fell", "I", false)
  | 16 => ("SpaceLinks$Side", "silent", "I", false)
  | 17 => ("SpaceLinks$Side", "spoiled", "I", false)
  | 18 => ("SpaceLinks$Side", "dataSent", "I", false)
  | _ => ("SpaceLinks$Side", "dataHeard", "I", false)
def tyX8 : Nat → FieldType := fun k => match k with
  | 0 => .object "SpaceLinks$Row"
  | 1 => .int
  | 2 => .int
  | 3 => .int
  | 4 => .int
  | 5 => .boolean
  | 6 => .boolean
  | 7 => .int
  | 8 => .int
  | 9 => .int
  | 10 => .int
  | 11 => .boolean
  | 12 => .boolean
  | 13 => .boolean
  | 14 => .boolean
  | 15 => .int
  | 16 => .int
  | 17 => .int
  | 18 => .int
  | _ => .int
abbrev wsX80 : List Cond := u_ws RX8 TX8 20
theorem nmX8 : ∀ a, a < 20 → ∀ b, b < 20 → a ≠ b → (TX8 a).2.1 ≠ (TX8 b).2.1 := by decide +kernel
theorem tyX8_ok : ∀ k, k < 20 → parseFieldDescriptor (TX8 k).2.2.1 = some (tyX8 k) := by decide +kernel
abbrev cX8_init : ByteArray := prog_10_method_1_code
def yX8_init : MethodName := ⟨RX8, "<init>", "()V"⟩
abbrev cX8_copyFrom : ByteArray := prog_10_method_2_code
def yX8_copyFrom : MethodName := ⟨RX8, "copyFrom", "(LSpaceLinks$Side;)V"⟩
abbrev cX8_enter : ByteArray := prog_10_method_3_code
def yX8_enter : MethodName := ⟨RX8, "enter", "(I)V"⟩
abbrev cX8_sells : ByteArray := prog_10_method_4_code
def yX8_sells : MethodName := ⟨RX8, "sells", "()Z"⟩
abbrev cX8_isPaidFor : ByteArray := prog_10_method_5_code
def yX8_isPaidFor : MethodName := ⟨RX8, "isPaidFor", "(LSpaceLinks$Side;)Z"⟩
abbrev cX8_tell : ByteArray := prog_10_method_6_code
def yX8_tell : MethodName := ⟨RX8, "tell", "(I)I"⟩
def RX9 : String := "SpaceLinks$Tape"
def TX9 : u_T := fun k => match k with
  | 0 => ("SpaceLinks$Tape", "cells", "[I", true)
  | 1 => ("SpaceLinks$Tape", "length", "I", false)
  | 2 => ("SpaceLinks$Tape", "fault", "I", false)
  | 3 => ("SpaceLinks$Tape", "place", "I", false)
  | 4 => ("SpaceLinks$Tape", "reading", "I", false)
  | 5 => ("SpaceLinks$Tape", "partners", "[I", true)
  | _ => ("SpaceLinks$Tape", "tables", "[I", true)
def tyX9 : Nat → FieldType := fun k => match k with
  | 0 => .array .int
  | 1 => .int
  | 2 => .int
  | 3 => .int
  | 4 => .int
  | 5 => .array .int
  | _ => .array .int
abbrev wsX90 : List Cond := u_ws RX9 TX9 7
theorem nmX9 : ∀ a, a < 7 → ∀ b, b < 7 → a ≠ b → (TX9 a).2.1 ≠ (TX9 b).2.1 := by decide +kernel
theorem tyX9_ok : ∀ k, k < 7 → parseFieldDescriptor (TX9 k).2.2.1 = some (tyX9 k) := by decide +kernel
abbrev cX9_init : ByteArray := prog_11_method_1_code
def yX9_init : MethodName := ⟨RX9, "<init>", "()V"⟩
abbrev cX9_add : ByteArray := prog_11_method_2_code
def yX9_add : MethodName := ⟨RX9, "add", "(I)V"⟩
abbrev cX9_at : ByteArray := prog_11_method_3_code
def yX9_at : MethodName := ⟨RX9, "at", "(I)I"⟩
abbrev cX9_read : ByteArray := prog_11_method_4_code
def yX9_read : MethodName := ⟨RX9, "read", "(LSpaceLinks$World;)I"⟩
abbrev cX9_readLine : ByteArray := prog_11_method_5_code
def yX9_readLine : MethodName := ⟨RX9, "readLine", "(LSpaceLinks$World;)Z"⟩
abbrev cX9_readCable : ByteArray := prog_11_method_6_code
def yX9_readCable : MethodName := ⟨RX9, "readCable", "(LSpaceLinks$World;)Z"⟩
abbrev cX9_readSocket : ByteArray := prog_11_method_7_code
def yX9_readSocket : MethodName := ⟨RX9, "readSocket", "(LSpaceLinks$World;I)I"⟩
abbrev cX9_readTable : ByteArray := prog_11_method_8_code
def yX9_readTable : MethodName := ⟨RX9, "readTable", "(LSpaceLinks$World;)Z"⟩
abbrev cX9_readPorts : ByteArray := prog_11_method_9_code
def yX9_readPorts : MethodName := ⟨RX9, "readPorts", "()I"⟩
abbrev cX9_readNumber : ByteArray := prog_11_method_10_code
def yX9_readNumber : MethodName := ⟨RX9, "readNumber", "(II)I"⟩
abbrev cX9_takesWord : ByteArray := prog_11_method_11_code
def yX9_takesWord : MethodName := ⟨RX9, "takesWord", "(Ljava/lang/String;)Z"⟩
abbrev cX9_takesSign : ByteArray := prog_11_method_12_code
def yX9_takesSign : MethodName := ⟨RX9, "takesSign", "(C)Z"⟩
abbrev cX9_skipBlanks : ByteArray := prog_11_method_13_code
def yX9_skipBlanks : MethodName := ⟨RX9, "skipBlanks", "()V"⟩
abbrev cX9_fails : ByteArray := prog_11_method_14_code
def yX9_fails : MethodName := ⟨RX9, "fails", "(II)Z"⟩
abbrev cX9_isDigit : ByteArray := prog_11_method_15_code
def yX9_isDigit : MethodName := ⟨RX9, "isDigit", "(I)Z"⟩
abbrev cX9_isLetter : ByteArray := prog_11_method_16_code
def yX9_isLetter : MethodName := ⟨RX9, "isLetter", "(I)Z"⟩
def RX10 : String := "SpaceLinks$World"
def TX10 : u_T := fun k => match k with
  | 0 => ("SpaceLinks$World", "sides", "[LSpaceLinks$Side;", true)
  | 1 => ("SpaceLinks$World", "inputs", "[LSpaceLinks$Input;", true)
  | 2 => ("SpaceLinks$World", "routers", "[LSpaceLinks$Router;", true)
  | 3 => ("SpaceLinks$World", "ends", "[LSpaceLinks$End;", true)
  | 4 => ("SpaceLinks$World", "log", "LSpaceLinks$Log;", true)
  | 5 => ("SpaceLinks$World", "sentKinds", "[I", true)
  | 6 => ("SpaceLinks$World", "tick", "I", false)
  | 7 => ("SpaceLinks$World", "watch", "I", false)
  | 8 => ("SpaceLinks$World", "odds", "I", false)
  | _ => ("SpaceLinks$World", "draws", "I", false)
def tyX10 : Nat → FieldType := fun k => match k with
  | 0 => .array (.object "SpaceLinks$Side")
  | 1 => .array (.object "SpaceLinks$Input")
  | 2 => .array (.object "SpaceLinks$Router")
  | 3 => .array (.object "SpaceLinks$End")
  | 4 => .object "SpaceLinks$Log"
  | 5 => .array .int
  | 6 => .int
  | 7 => .int
  | 8 => .int
  | _ => .int
abbrev wsX100 : List Cond := u_ws RX10 TX10 10
theorem nmX10 : ∀ a, a < 10 → ∀ b, b < 10 → a ≠ b → (TX10 a).2.1 ≠ (TX10 b).2.1 := by decide +kernel
theorem tyX10_ok : ∀ k, k < 10 → parseFieldDescriptor (TX10 k).2.2.1 = some (tyX10 k) := by decide +kernel
abbrev cX10_init : ByteArray := prog_12_method_1_code
def yX10_init : MethodName := ⟨RX10, "<init>", "()V"⟩
abbrev cX10_copyFrom : ByteArray := prog_12_method_2_code
def yX10_copyFrom : MethodName := ⟨RX10, "copyFrom", "(LSpaceLinks$World;)V"⟩
abbrev cX10_lay : ByteArray := prog_12_method_3_code
def yX10_lay : MethodName := ⟨RX10, "lay", "(II)V"⟩
abbrev cX10_part : ByteArray := prog_12_method_4_code
def yX10_part : MethodName := ⟨RX10, "part", "(I)I"⟩
abbrev cX10_settle : ByteArray := prog_12_method_5_code
def yX10_settle : MethodName := ⟨RX10, "settle", "(I)V"⟩
abbrev cX10_leave : ByteArray := prog_12_method_6_code
def yX10_leave : MethodName := ⟨RX10, "leave", "(II)V"⟩
abbrev cX10_step : ByteArray := prog_12_method_7_code
def yX10_step : MethodName := ⟨RX10, "step", "()V"⟩
abbrev cX10_unstickSpilling : ByteArray := prog_12_method_8_code
def yX10_unstickSpilling : MethodName := ⟨RX10, "unstickSpilling", "()V"⟩
abbrev cX10_hear : ByteArray := prog_12_method_9_code
def yX10_hear : MethodName := ⟨RX10, "hear", "(I)V"⟩
abbrev cX10_draw : ByteArray := prog_12_method_10_code
def yX10_draw : MethodName := ⟨RX10, "draw", "()I"⟩
abbrev cX10_hearCredit : ByteArray := prog_12_method_11_code
def yX10_hearCredit : MethodName := ⟨RX10, "hearCredit", "(I)V"⟩
abbrev cX10_hearTime : ByteArray := prog_12_method_12_code
def yX10_hearTime : MethodName := ⟨RX10, "hearTime", "(II)V"⟩
abbrev cX10_hearData : ByteArray := prog_12_method_13_code
def yX10_hearData : MethodName := ⟨RX10, "hearData", "(II)V"⟩
abbrev cX10_grow : ByteArray := prog_12_method_14_code
def yX10_grow : MethodName := ⟨RX10, "grow", "(I)V"⟩
abbrev cX10_growOn : ByteArray := prog_12_method_15_code
def yX10_growOn : MethodName := ⟨RX10, "growOn", "(I)V"⟩
abbrev cX10_serve : ByteArray := prog_12_method_16_code
def yX10_serve : MethodName := ⟨RX10, "serve", "(LSpaceLinks$Router;I)V"⟩
abbrev cX10_begin : ByteArray := prog_12_method_17_code
def yX10_begin : MethodName := ⟨RX10, "begin", "(LSpaceLinks$Router;I)Z"⟩
abbrev cX10_openPort : ByteArray := prog_12_method_18_code
def yX10_openPort : MethodName := ⟨RX10, "openPort", "(II)I"⟩
abbrev cX10_spill : ByteArray := prog_12_method_19_code
def yX10_spill : MethodName := ⟨RX10, "spill", "(I)I"⟩
abbrev cX10_answer : ByteArray := prog_12_method_20_code
def yX10_answer : MethodName := ⟨RX10, "answer", "(LSpaceLinks$Router;IZ)V"⟩
abbrev cX10_obeys : ByteArray := prog_12_method_21_code
def yX10_obeys : MethodName := ⟨RX10, "obeys", "(LSpaceLinks$Router;I)Z"⟩
abbrev cX10_stick : ByteArray := prog_12_method_22_code
def yX10_stick : MethodName := ⟨RX10, "stick", "(I)V"⟩
abbrev cX10_takeIn : ByteArray := prog_12_method_23_code
def yX10_takeIn : MethodName := ⟨RX10, "takeIn", "(I)V"⟩
abbrev cX10_transmit : ByteArray := prog_12_method_24_code
def yX10_transmit : MethodName := ⟨RX10, "transmit", "(I)V"⟩
abbrev cX10_transmitInRun : ByteArray := prog_12_method_25_code
def yX10_transmitInRun : MethodName := ⟨RX10, "transmitInRun", "(I)V"⟩
abbrev cX10_choose : ByteArray := prog_12_method_26_code
def yX10_choose : MethodName := ⟨RX10, "choose", "(I)I"⟩
abbrev cX10_passOn : ByteArray := prog_12_method_27_code
def yX10_passOn : MethodName := ⟨RX10, "passOn", "(I)I"⟩
abbrev cX10_received : ByteArray := prog_12_method_28_code
def yX10_received : MethodName := ⟨RX10, "received", "(Z)I"⟩
abbrev cX10_total : ByteArray := prog_12_method_29_code
def yX10_total : MethodName := ⟨RX10, "total", "(I)I"⟩
abbrev cX10_baseOf : ByteArray := prog_12_method_30_code
def yX10_baseOf : MethodName := ⟨RX10, "baseOf", "(I)I"⟩
abbrev cX10_portOf : ByteArray := prog_12_method_31_code
def yX10_portOf : MethodName := ⟨RX10, "portOf", "(I)I"⟩
abbrev cX10_kindOf : ByteArray := prog_12_method_32_code
def yX10_kindOf : MethodName := ⟨RX10, "kindOf", "(I)I"⟩
def RX11 : String := "SpaceLinks"
def TX11 : u_T := fun k => match k with
  | 0 => ("SpaceLinks", "now", "LSpaceLinks$World;", true)
  | 1 => ("SpaceLinks", "tape", "LSpaceLinks$Tape;", true)
  | 2 => ("SpaceLinks", "image", "LSpaceLinks$World;", false)
  | _ => ("SpaceLinks", "thought", "LSpaceLinks$World;", false)
def tyX11 : Nat → FieldType := fun k => match k with
  | 0 => .object "SpaceLinks$World"
  | 1 => .object "SpaceLinks$Tape"
  | 2 => .object "SpaceLinks$World"
  | _ => .object "SpaceLinks$World"
abbrev wsX110 : List Cond := u_ws RX11 TX11 4
theorem nmX11 : ∀ a, a < 4 → ∀ b, b < 4 → a ≠ b → (TX11 a).2.1 ≠ (TX11 b).2.1 := by decide +kernel
theorem tyX11_ok : ∀ k, k < 4 → parseFieldDescriptor (TX11 k).2.2.1 = some (tyX11 k) := by decide +kernel
abbrev cX11_init : ByteArray := prog_1_method_1_code
def yX11_init : MethodName := ⟨RX11, "<init>", "()V"⟩
abbrev cX11_plug : ByteArray := prog_1_method_2_code
def yX11_plug : MethodName := ⟨RX11, "plug", "(II)Z"⟩
abbrev cX11_unplug : ByteArray := prog_1_method_3_code
def yX11_unplug : MethodName := ⟨RX11, "unplug", "(I)I"⟩
abbrev cX11_broken : ByteArray := prog_1_method_4_code
def yX11_broken : MethodName := ⟨RX11, "broken", "(IZ)Z"⟩
abbrev cX11_turn : ByteArray := prog_1_method_5_code
def yX11_turn : MethodName := ⟨RX11, "turn", "(IZ)Z"⟩
abbrev cX11_watch : ByteArray := prog_1_method_6_code
def yX11_watch : MethodName := ⟨RX11, "watch", "(I)Z"⟩
abbrev cX11_odds : ByteArray := prog_1_method_7_code
def yX11_odds : MethodName := ⟨RX11, "odds", "(I)Z"⟩
abbrev cX11_state : ByteArray := prog_1_method_8_code
def yX11_state : MethodName := ⟨RX11, "state", "(I)I"⟩
abbrev cX11_table : ByteArray := prog_1_method_9_code
def yX11_table : MethodName := ⟨RX11, "table", "(IIIZ)Z"⟩
abbrev cX11_hold : ByteArray := prog_1_method_10_code
def yX11_hold : MethodName := ⟨RX11, "hold", "(IZ)Z"⟩
abbrev cX11_tick : ByteArray := prog_1_method_11_code
def yX11_tick : MethodName := ⟨RX11, "tick", "(I)I"⟩
abbrev cX11_feed : ByteArray := prog_1_method_12_code
def yX11_feed : MethodName := ⟨RX11, "feed", "(IIIII)I"⟩
abbrev cX11_end : ByteArray := prog_1_method_13_code
def yX11_end : MethodName := ⟨RX11, "end", "(I)Z"⟩
abbrev cX11_send : ByteArray := prog_1_method_14_code
def yX11_send : MethodName := ⟨RX11, "send", "(I)I"⟩
abbrev cX11_text : ByteArray := prog_1_method_15_code
def yX11_text : MethodName := ⟨RX11, "text", "()I"⟩
abbrev cX11_fault : ByteArray := prog_1_method_16_code
def yX11_fault : MethodName := ⟨RX11, "fault", "(I)I"⟩
abbrev cX11_time : ByteArray := prog_1_method_17_code
def yX11_time : MethodName := ⟨RX11, "time", "(I)I"⟩
abbrev cX11_socket : ByteArray := prog_1_method_18_code
def yX11_socket : MethodName := ⟨RX11, "socket", "(II)I"⟩
abbrev cX11_buffer : ByteArray := prog_1_method_19_code
def yX11_buffer : MethodName := ⟨RX11, "buffer", "(II)I"⟩
abbrev cX11_input : ByteArray := prog_1_method_20_code
def yX11_input : MethodName := ⟨RX11, "input", "(II)I"⟩
abbrev cX11_router : ByteArray := prog_1_method_21_code
def yX11_router : MethodName := ⟨RX11, "router", "(II)I"⟩
abbrev cX11_tableOf : ByteArray := prog_1_method_22_code
def yX11_tableOf : MethodName := ⟨RX11, "tableOf", "(II)I"⟩
abbrev cX11_endOf : ByteArray := prog_1_method_23_code
def yX11_endOf : MethodName := ⟨RX11, "endOf", "(II)I"⟩
abbrev cX11_packet : ByteArray := prog_1_method_24_code
def yX11_packet : MethodName := ⟨RX11, "packet", "(III)I"⟩
abbrev cX11_byteOf : ByteArray := prog_1_method_25_code
def yX11_byteOf : MethodName := ⟨RX11, "byteOf", "(III)I"⟩
abbrev cX11_way : ByteArray := prog_1_method_26_code
def yX11_way : MethodName := ⟨RX11, "way", "(III)I"⟩
abbrev cX11_spread : ByteArray := prog_1_method_27_code
def yX11_spread : MethodName := ⟨RX11, "spread", "(II)I"⟩
abbrev cX11_loops : ByteArray := prog_1_method_28_code
def yX11_loops : MethodName := ⟨RX11, "loops", "(II)I"⟩
abbrev cX11_log : ByteArray := prog_1_method_29_code
def yX11_log : MethodName := ⟨RX11, "log", "(II)I"⟩
abbrev cX11_lasts : ByteArray := prog_1_method_30_code
def yX11_lasts : MethodName := ⟨RX11, "lasts", "(II)I"⟩
abbrev cX11_sound : ByteArray := prog_1_method_31_code
def yX11_sound : MethodName := ⟨RX11, "sound", "(I)I"⟩
abbrev cX11_image : ByteArray := prog_1_method_32_code
def yX11_image : MethodName := ⟨RX11, "image", "(Z)Z"⟩
abbrev cX11_look : ByteArray := prog_1_method_33_code
def yX11_look : MethodName := ⟨RX11, "look", "(I)I"⟩
abbrev cX11_layAllTold : ByteArray := prog_1_method_34_code
def yX11_layAllTold : MethodName := ⟨RX11, "layAllTold", "()V"⟩
abbrev cX11_keptPacket : ByteArray := prog_1_method_35_code
def yX11_keptPacket : MethodName := ⟨RX11, "keptPacket", "(II)LSpaceLinks$Packet;"⟩
abbrev cX11_isSocket : ByteArray := prog_1_method_36_code
def yX11_isSocket : MethodName := ⟨RX11, "isSocket", "(I)Z"⟩
abbrev cX11_isRouter : ByteArray := prog_1_method_37_code
def yX11_isRouter : MethodName := ⟨RX11, "isRouter", "(I)Z"⟩
abbrev cX11_isEnd : ByteArray := prog_1_method_38_code
def yX11_isEnd : MethodName := ⟨RX11, "isEnd", "(I)Z"⟩
abbrev cX11_isAddress : ByteArray := prog_1_method_39_code
def yX11_isAddress : MethodName := ⟨RX11, "isAddress", "(I)Z"⟩
abbrev cX11_isPortSet : ByteArray := prog_1_method_40_code
def yX11_isPortSet : MethodName := ⟨RX11, "isPortSet", "(I)Z"⟩
abbrev cX11_bit : ByteArray := prog_1_method_41_code
def yX11_bit : MethodName := ⟨RX11, "bit", "(Z)I"⟩
def RX12 : String := "SpaceLinksModel"
def TX12 : u_T := fun k => match k with
  | 0 => ("SpaceLinksModel", "told", "I", false)
  | 1 => ("SpaceLinksModel", "now", "[I", true)
  | 2 => ("SpaceLinksModel", "aside", "[I", true)
  | 3 => ("SpaceLinksModel", "tape", "[I", true)
  | 4 => ("SpaceLinksModel", "taped", "I", false)
  | 5 => ("SpaceLinksModel", "faultKind", "I", false)
  | 6 => ("SpaceLinksModel", "faultPlace", "I", false)
  | 7 => ("SpaceLinksModel", "spot", "I", false)
  | 8 => ("SpaceLinksModel", "stop", "I", false)
  | 9 => ("SpaceLinksModel", "isWrong", "Z", false)
  | 10 => ("SpaceLinksModel", "hops", "[I", true)
  | 11 => ("SpaceLinksModel", "hasImage", "Z", false)
  | _ => ("SpaceLinksModel", "images", "[I", true)
def tyX12 : Nat → FieldType := fun k => match k with
  | 0 => .int
  | 1 => .array .int
  | 2 => .array .int
  | 3 => .array .int
  | 4 => .int
  | 5 => .int
  | 6 => .int
  | 7 => .int
  | 8 => .int
  | 9 => .boolean
  | 10 => .array .int
  | 11 => .boolean
  | _ => .array .int
abbrev wsX120 : List Cond := u_ws RX12 TX12 13
theorem nmX12 : ∀ a, a < 13 → ∀ b, b < 13 → a ≠ b → (TX12 a).2.1 ≠ (TX12 b).2.1 := by decide +kernel
theorem tyX12_ok : ∀ k, k < 13 → parseFieldDescriptor (TX12 k).2.2.1 = some (tyX12 k) := by decide +kernel
abbrev cX12_init : ByteArray := prog_14_method_1_code
def yX12_init : MethodName := ⟨RX12, "<init>", "()V"⟩
abbrev cX12_isIn : ByteArray := prog_14_method_3_code
def yX12_isIn : MethodName := ⟨RX12, "isIn", "(III)Z"⟩
abbrev cX12_at : ByteArray := prog_14_method_4_code
def yX12_at : MethodName := ⟨RX12, "at", "(II)I"⟩
abbrev cX12_puts : ByteArray := prog_14_method_5_code
def yX12_puts : MethodName := ⟨RX12, "puts", "(III)V"⟩
abbrev cX12_more : ByteArray := prog_14_method_6_code
def yX12_more : MethodName := ⟨RX12, "more", "(II)V"⟩
abbrev cX12_ofRouter : ByteArray := prog_14_method_7_code
def yX12_ofRouter : MethodName := ⟨RX12, "ofRouter", "(II)I"⟩
abbrev cX12_putsRouter : ByteArray := prog_14_method_8_code
def yX12_putsRouter : MethodName := ⟨RX12, "putsRouter", "(III)V"⟩
abbrev cX12_moreRouter : ByteArray := prog_14_method_9_code
def yX12_moreRouter : MethodName := ⟨RX12, "moreRouter", "(II)V"⟩
abbrev cX12_ofEnd : ByteArray := prog_14_method_10_code
def yX12_ofEnd : MethodName := ⟨RX12, "ofEnd", "(II)I"⟩
abbrev cX12_putsEnd : ByteArray := prog_14_method_11_code
def yX12_putsEnd : MethodName := ⟨RX12, "putsEnd", "(III)V"⟩
abbrev cX12_moreEnd : ByteArray := prog_14_method_12_code
def yX12_moreEnd : MethodName := ⟨RX12, "moreEnd", "(II)V"⟩
abbrev cX12_isSocket : ByteArray := prog_14_method_13_code
def yX12_isSocket : MethodName := ⟨RX12, "isSocket", "(I)Z"⟩
abbrev cX12_isPort : ByteArray := prog_14_method_14_code
def yX12_isPort : MethodName := ⟨RX12, "isPort", "(I)Z"⟩
abbrev cX12_isRouter : ByteArray := prog_14_method_15_code
def yX12_isRouter : MethodName := ⟨RX12, "isRouter", "(I)Z"⟩
abbrev cX12_isEnd : ByteArray := prog_14_method_16_code
def yX12_isEnd : MethodName := ⟨RX12, "isEnd", "(I)Z"⟩
abbrev cX12_otherOf : ByteArray := prog_14_method_17_code
def yX12_otherOf : MethodName := ⟨RX12, "otherOf", "(I)I"⟩
abbrev cX12_isLive : ByteArray := prog_14_method_18_code
def yX12_isLive : MethodName := ⟨RX12, "isLive", "(I)Z"⟩
abbrev cX12_copies : ByteArray := prog_14_method_19_code
def yX12_copies : MethodName := ⟨RX12, "copies", "([I[I)V"⟩
abbrev cX12_logs : ByteArray := prog_14_method_20_code
def yX12_logs : MethodName := ⟨RX12, "logs", "(II)V"⟩
abbrev cX12_draw : ByteArray := prog_14_method_21_code
def yX12_draw : MethodName := ⟨RX12, "draw", "()I"⟩
abbrev cX12_buffers : ByteArray := prog_14_method_22_code
def yX12_buffers : MethodName := ⟨RX12, "buffers", "(II)V"⟩
abbrev cX12_takes : ByteArray := prog_14_method_23_code
def yX12_takes : MethodName := ⟨RX12, "takes", "(I)I"⟩
abbrev cX12_isMark : ByteArray := prog_14_method_24_code
def yX12_isMark : MethodName := ⟨RX12, "isMark", "(I)Z"⟩
abbrev cX12_isData : ByteArray := prog_14_method_25_code
def yX12_isData : MethodName := ⟨RX12, "isData", "(I)Z"⟩
abbrev cX12_routedTo : ByteArray := prog_14_method_26_code
def yX12_routedTo : MethodName := ⟨RX12, "routedTo", "(I)I"⟩
abbrev cX12_spills : ByteArray := prog_14_method_27_code
def yX12_spills : MethodName := ⟨RX12, "spills", "(I)V"⟩
abbrev cX12_takesQueue : ByteArray := prog_14_method_28_code
def yX12_takesQueue : MethodName := ⟨RX12, "takesQueue", "(I)I"⟩
abbrev cX12_becomes : ByteArray := prog_14_method_29_code
def yX12_becomes : MethodName := ⟨RX12, "becomes", "(II)V"⟩
abbrev cX12_falls : ByteArray := prog_14_method_30_code
def yX12_falls : MethodName := ⟨RX12, "falls", "(II)V"⟩
abbrev cX12_losesQueue : ByteArray := prog_14_method_31_code
def yX12_losesQueue : MethodName := ⟨RX12, "losesQueue", "(I)V"⟩
abbrev cX12_settles : ByteArray := prog_14_method_32_code
def yX12_settles : MethodName := ⟨RX12, "settles", "(I)V"⟩
abbrev cX12_joins : ByteArray := prog_14_method_33_code
def yX12_joins : MethodName := ⟨RX12, "joins", "(II)V"⟩
abbrev cX12_plug : ByteArray := prog_14_method_34_code
def yX12_plug : MethodName := ⟨RX12, "plug", "(II)Z"⟩
abbrev cX12_unplug : ByteArray := prog_14_method_35_code
def yX12_unplug : MethodName := ⟨RX12, "unplug", "(I)I"⟩
abbrev cX12_broken : ByteArray := prog_14_method_36_code
def yX12_broken : MethodName := ⟨RX12, "broken", "(IZ)Z"⟩
abbrev cX12_turns : ByteArray := prog_14_method_37_code
def yX12_turns : MethodName := ⟨RX12, "turns", "(IZ)Z"⟩
abbrev cX12_turn : ByteArray := prog_14_method_38_code
def yX12_turn : MethodName := ⟨RX12, "turn", "(IZ)Z"⟩
abbrev cX12_watch : ByteArray := prog_14_method_39_code
def yX12_watch : MethodName := ⟨RX12, "watch", "(I)Z"⟩
abbrev cX12_odds : ByteArray := prog_14_method_40_code
def yX12_odds : MethodName := ⟨RX12, "odds", "(I)Z"⟩
abbrev cX12_state : ByteArray := prog_14_method_41_code
def yX12_state : MethodName := ⟨RX12, "state", "(I)I"⟩
abbrev cX12_isAddress : ByteArray := prog_14_method_42_code
def yX12_isAddress : MethodName := ⟨RX12, "isAddress", "(I)Z"⟩
abbrev cX12_arePorts : ByteArray := prog_14_method_43_code
def yX12_arePorts : MethodName := ⟨RX12, "arePorts", "(I)Z"⟩
abbrev cX12_tableAt : ByteArray := prog_14_method_44_code
def yX12_tableAt : MethodName := ⟨RX12, "tableAt", "(II)I"⟩
abbrev cX12_tables : ByteArray := prog_14_method_45_code
def yX12_tables : MethodName := ⟨RX12, "tables", "(IIIZ)V"⟩
abbrev cX12_table : ByteArray := prog_14_method_46_code
def yX12_table : MethodName := ⟨RX12, "table", "(IIIZ)Z"⟩
abbrev cX12_hold : ByteArray := prog_14_method_47_code
def yX12_hold : MethodName := ⟨RX12, "hold", "(IZ)Z"⟩
abbrev cX12_comesToRouter : ByteArray := prog_14_method_48_code
def yX12_comesToRouter : MethodName := ⟨RX12, "comesToRouter", "(III)V"⟩
abbrev cX12_comesToEnd : ByteArray := prog_14_method_49_code
def yX12_comesToEnd : MethodName := ⟨RX12, "comesToEnd", "(II)V"⟩
abbrev cX12_hearsData : ByteArray := prog_14_method_50_code
def yX12_hearsData : MethodName := ⟨RX12, "hearsData", "(II)V"⟩
abbrev cX12_hears : ByteArray := prog_14_method_51_code
def yX12_hears : MethodName := ⟨RX12, "hears", "(II)V"⟩
abbrev cX12_hearsAll : ByteArray := prog_14_method_52_code
def yX12_hearsAll : MethodName := ⟨RX12, "hearsAll", "()V"⟩
abbrev cX12_grows : ByteArray := prog_14_method_53_code
def yX12_grows : MethodName := ⟨RX12, "grows", "(I)V"⟩
abbrev cX12_spillsOne : ByteArray := prog_14_method_54_code
def yX12_spillsOne : MethodName := ⟨RX12, "spillsOne", "(II)V"⟩
abbrev cX12_does : ByteArray := prog_14_method_55_code
def yX12_does : MethodName := ⟨RX12, "does", "(I)Z"⟩
abbrev cX12_writes : ByteArray := prog_14_method_56_code
def yX12_writes : MethodName := ⟨RX12, "writes", "(IIII)Z"⟩
abbrev cX12_spillsAhead : ByteArray := prog_14_method_57_code
def yX12_spillsAhead : MethodName := ⟨RX12, "spillsAhead", "(I)V"⟩
abbrev cX12_isOpen : ByteArray := prog_14_method_58_code
def yX12_isOpen : MethodName := ⟨RX12, "isOpen", "(II)Z"⟩
abbrev cX12_leastOpen : ByteArray := prog_14_method_59_code
def yX12_leastOpen : MethodName := ⟨RX12, "leastOpen", "(II)I"⟩
abbrev cX12_meant : ByteArray := prog_14_method_60_code
def yX12_meant : MethodName := ⟨RX12, "meant", "(II)I"⟩
abbrev cX12_routes : ByteArray := prog_14_method_61_code
def yX12_routes : MethodName := ⟨RX12, "routes", "(II)V"⟩
abbrev cX12_watchOf : ByteArray := prog_14_method_62_code
def yX12_watchOf : MethodName := ⟨RX12, "watchOf", "()I"⟩
abbrev cX12_cuts : ByteArray := prog_14_method_63_code
def yX12_cuts : MethodName := ⟨RX12, "cuts", "(I)V"⟩
abbrev cX12_looksAt : ByteArray := prog_14_method_64_code
def yX12_looksAt : MethodName := ⟨RX12, "looksAt", "(I)V"⟩
abbrev cX12_routesAll : ByteArray := prog_14_method_65_code
def yX12_routesAll : MethodName := ⟨RX12, "routesAll", "(I)V"⟩
abbrev cX12_takesAtEnd : ByteArray := prog_14_method_66_code
def yX12_takesAtEnd : MethodName := ⟨RX12, "takesAtEnd", "(I)V"⟩
abbrev cX12_maySell : ByteArray := prog_14_method_67_code
def yX12_maySell : MethodName := ⟨RX12, "maySell", "(I)Z"⟩
abbrev cX12_sells : ByteArray := prog_14_method_68_code
def yX12_sells : MethodName := ⟨RX12, "sells", "(I)I"⟩
abbrev cX12_nextData : ByteArray := prog_14_method_69_code
def yX12_nextData : MethodName := ⟨RX12, "nextData", "(I)I"⟩
abbrev cX12_sendsInRun : ByteArray := prog_14_method_70_code
def yX12_sendsInRun : MethodName := ⟨RX12, "sendsInRun", "(I)I"⟩
abbrev cX12_sends : ByteArray := prog_14_method_71_code
def yX12_sends : MethodName := ⟨RX12, "sends", "(I)I"⟩
abbrev cX12_watches : ByteArray := prog_14_method_72_code
def yX12_watches : MethodName := ⟨RX12, "watches", "(I)V"⟩
abbrev cX12_ticks : ByteArray := prog_14_method_73_code
def yX12_ticks : MethodName := ⟨RX12, "ticks", "()V"⟩
abbrev cX12_tick : ByteArray := prog_14_method_74_code
def yX12_tick : MethodName := ⟨RX12, "tick", "(I)I"⟩
abbrev cX12_types : ByteArray := prog_14_method_75_code
def yX12_types : MethodName := ⟨RX12, "types", "(I)V"⟩
abbrev cX12_feed : ByteArray := prog_14_method_76_code
def yX12_feed : MethodName := ⟨RX12, "feed", "(IIIII)I"⟩
abbrev cX12_end : ByteArray := prog_14_method_77_code
def yX12_end : MethodName := ⟨RX12, "end", "(I)Z"⟩
abbrev cX12_queues : ByteArray := prog_14_method_78_code
def yX12_queues : MethodName := ⟨RX12, "queues", "(II)V"⟩
abbrev cX12_send : ByteArray := prog_14_method_79_code
def yX12_send : MethodName := ⟨RX12, "send", "(I)I"⟩
abbrev cX12_here : ByteArray := prog_14_method_80_code
def yX12_here : MethodName := ⟨RX12, "here", "()I"⟩
abbrev cX12_behindBlanks : ByteArray := prog_14_method_81_code
def yX12_behindBlanks : MethodName := ⟨RX12, "behindBlanks", "()I"⟩
abbrev cX12_isDigit : ByteArray := prog_14_method_82_code
def yX12_isDigit : MethodName := ⟨RX12, "isDigit", "(I)Z"⟩
abbrev cX12_errs : ByteArray := prog_14_method_83_code
def yX12_errs : MethodName := ⟨RX12, "errs", "(II)I"⟩
abbrev cX12_letters : ByteArray := prog_14_method_84_code
def yX12_letters : MethodName := ⟨RX12, "letters", "()I"⟩
abbrev cX12_takesWord : ByteArray := prog_14_method_85_code
def yX12_takesWord : MethodName := ⟨RX12, "takesWord", "(Ljava/lang/String;)Z"⟩
abbrev cX12_number : ByteArray := prog_14_method_86_code
def yX12_number : MethodName := ⟨RX12, "number", "(II)I"⟩
abbrev cX12_sign : ByteArray := prog_14_method_87_code
def yX12_sign : MethodName := ⟨RX12, "sign", "(I)V"⟩
abbrev cX12_readSocket : ByteArray := prog_14_method_88_code
def yX12_readSocket : MethodName := ⟨RX12, "readSocket", "(I)I"⟩
abbrev cX12_readCable : ByteArray := prog_14_method_89_code
def yX12_readCable : MethodName := ⟨RX12, "readCable", "()V"⟩
abbrev cX12_readTable : ByteArray := prog_14_method_90_code
def yX12_readTable : MethodName := ⟨RX12, "readTable", "()V"⟩
abbrev cX12_text : ByteArray := prog_14_method_91_code
def yX12_text : MethodName := ⟨RX12, "text", "()I"⟩
abbrev cX12_fault : ByteArray := prog_14_method_92_code
def yX12_fault : MethodName := ⟨RX12, "fault", "(I)I"⟩
abbrev cX12_time : ByteArray := prog_14_method_93_code
def yX12_time : MethodName := ⟨RX12, "time", "(I)I"⟩
abbrev cX12_socket : ByteArray := prog_14_method_94_code
def yX12_socket : MethodName := ⟨RX12, "socket", "(II)I"⟩
abbrev cX12_buffer : ByteArray := prog_14_method_95_code
def yX12_buffer : MethodName := ⟨RX12, "buffer", "(II)I"⟩
abbrev cX12_input : ByteArray := prog_14_method_96_code
def yX12_input : MethodName := ⟨RX12, "input", "(II)I"⟩
abbrev cX12_tablesOf : ByteArray := prog_14_method_97_code
def yX12_tablesOf : MethodName := ⟨RX12, "tablesOf", "(I)I"⟩
abbrev cX12_router : ByteArray := prog_14_method_98_code
def yX12_router : MethodName := ⟨RX12, "router", "(II)I"⟩
abbrev cX12_tableOf : ByteArray := prog_14_method_99_code
def yX12_tableOf : MethodName := ⟨RX12, "tableOf", "(II)I"⟩
abbrev cX12_endOf : ByteArray := prog_14_method_100_code
def yX12_endOf : MethodName := ⟨RX12, "endOf", "(II)I"⟩
abbrev cX12_packetAt : ByteArray := prog_14_method_101_code
def yX12_packetAt : MethodName := ⟨RX12, "packetAt", "(II)I"⟩
abbrev cX12_packet : ByteArray := prog_14_method_102_code
def yX12_packet : MethodName := ⟨RX12, "packet", "(III)I"⟩
abbrev cX12_byteOf : ByteArray := prog_14_method_103_code
def yX12_byteOf : MethodName := ⟨RX12, "byteOf", "(III)I"⟩
abbrev cX12_laysHops : ByteArray := prog_14_method_104_code
def yX12_laysHops : MethodName := ⟨RX12, "laysHops", "(I)V"⟩
abbrev cX12_onward : ByteArray := prog_14_method_105_code
def yX12_onward : MethodName := ⟨RX12, "onward", "(II)I"⟩
abbrev cX12_way : ByteArray := prog_14_method_106_code
def yX12_way : MethodName := ⟨RX12, "way", "(III)I"⟩
abbrev cX12_onTo : ByteArray := prog_14_method_107_code
def yX12_onTo : MethodName := ⟨RX12, "onTo", "(II)I"⟩
abbrev cX12_reaches : ByteArray := prog_14_method_108_code
def yX12_reaches : MethodName := ⟨RX12, "reaches", "(II)I"⟩
abbrev cX12_spread : ByteArray := prog_14_method_109_code
def yX12_spread : MethodName := ⟨RX12, "spread", "(II)I"⟩
abbrev cX12_loops : ByteArray := prog_14_method_110_code
def yX12_loops : MethodName := ⟨RX12, "loops", "(II)I"⟩
abbrev cX12_log : ByteArray := prog_14_method_111_code
def yX12_log : MethodName := ⟨RX12, "log", "(II)I"⟩
abbrev cX12_lasts : ByteArray := prog_14_method_112_code
def yX12_lasts : MethodName := ⟨RX12, "lasts", "(II)I"⟩
abbrev cX12_isSold : ByteArray := prog_14_method_113_code
def yX12_isSold : MethodName := ⟨RX12, "isSold", "(II)Z"⟩
abbrev cX12_sound : ByteArray := prog_14_method_114_code
def yX12_sound : MethodName := ⟨RX12, "sound", "(I)I"⟩
abbrev cX12_image : ByteArray := prog_14_method_115_code
def yX12_image : MethodName := ⟨RX12, "image", "(Z)Z"⟩
abbrev cX12_sumOf : ByteArray := prog_14_method_116_code
def yX12_sumOf : MethodName := ⟨RX12, "sumOf", "(I)I"⟩
abbrev cX12_cables : ByteArray := prog_14_method_117_code
def yX12_cables : MethodName := ⟨RX12, "cables", "(Z)I"⟩
abbrev cX12_sumOfEnds : ByteArray := prog_14_method_118_code
def yX12_sumOfEnds : MethodName := ⟨RX12, "sumOfEnds", "(I)I"⟩
abbrev cX12_running : ByteArray := prog_14_method_119_code
def yX12_running : MethodName := ⟨RX12, "running", "()I"⟩
abbrev cX12_look : ByteArray := prog_14_method_120_code
def yX12_look : MethodName := ⟨RX12, "look", "(I)I"⟩
def RJx145de : String := "java/io/Serializable"
def TJx145de : u_T := fun k => match k with
  | _ => ("", "", "", false)
def tyJx145de : Nat → FieldType := fun k => match k with
  | _ => .int
abbrev wsJx145de0 : List Cond := u_ws RJx145de TJx145de 0
theorem nmJx145de : ∀ a, a < 0 → ∀ b, b < 0 → a ≠ b → (TJx145de a).2.1 ≠ (TJx145de b).2.1 := by decide +kernel
theorem tyJx145de_ok : ∀ k, k < 0 → parseFieldDescriptor (TJx145de k).2.2.1 = some (tyJx145de k) := by decide +kernel
def RJx9f9b0 : String := "java/lang/CharSequence"
def TJx9f9b0 : u_T := fun k => match k with
  | _ => ("", "", "", false)
def tyJx9f9b0 : Nat → FieldType := fun k => match k with
  | _ => .int
abbrev wsJx9f9b00 : List Cond := u_ws RJx9f9b0 TJx9f9b0 0
theorem nmJx9f9b0 : ∀ a, a < 0 → ∀ b, b < 0 → a ≠ b → (TJx9f9b0 a).2.1 ≠ (TJx9f9b0 b).2.1 := by decide +kernel
theorem tyJx9f9b0_ok : ∀ k, k < 0 → parseFieldDescriptor (TJx9f9b0 k).2.2.1 = some (tyJx9f9b0 k) := by decide +kernel
def RJxb160c : String := "java/lang/Comparable"
def TJxb160c : u_T := fun k => match k with
  | _ => ("", "", "", false)
def tyJxb160c : Nat → FieldType := fun k => match k with
  | _ => .int
abbrev wsJxb160c0 : List Cond := u_ws RJxb160c TJxb160c 0
theorem nmJxb160c : ∀ a, a < 0 → ∀ b, b < 0 → a ≠ b → (TJxb160c a).2.1 ≠ (TJxb160c b).2.1 := by decide +kernel
theorem tyJxb160c_ok : ∀ k, k < 0 → parseFieldDescriptor (TJxb160c k).2.2.1 = some (tyJxb160c k) := by decide +kernel
def RJ9 : String := "java/lang/Math"
def TJ9 : u_T := fun k => match k with
  | _ => ("", "", "", false)
def tyJ9 : Nat → FieldType := fun k => match k with
  | _ => .int
abbrev wsJ90 : List Cond := u_ws RJ9 TJ9 0
theorem nmJ9 : ∀ a, a < 0 → ∀ b, b < 0 → a ≠ b → (TJ9 a).2.1 ≠ (TJ9 b).2.1 := by decide +kernel
theorem tyJ9_ok : ∀ k, k < 0 → parseFieldDescriptor (TJ9 k).2.2.1 = some (tyJ9 k) := by decide +kernel
abbrev cJ9_max_7cf53 : ByteArray := prog_15_method_65_code
def yJ9_max_7cf53 : MethodName := ⟨RJ9, "max", "(II)I"⟩
abbrev cJ9_min_7cf53 : ByteArray := prog_15_method_69_code
def yJ9_min_7cf53 : MethodName := ⟨RJ9, "min", "(II)I"⟩
def RJ0 : String := "java/lang/String"
def TJ0 : u_T := fun k => match k with
  | _ => ("", "", "", false)
def tyJ0 : Nat → FieldType := fun k => match k with
  | _ => .int
abbrev wsJ00 : List Cond := u_ws RJ0 TJ0 0
theorem nmJ0 : ∀ a, a < 0 → ∀ b, b < 0 → a ≠ b → (TJ0 a).2.1 ≠ (TJ0 b).2.1 := by decide +kernel
theorem tyJ0_ok : ∀ k, k < 0 → parseFieldDescriptor (TJ0 k).2.2.1 = some (tyJ0 k) := by decide +kernel
abbrev cJ0_length_8abf5 : ByteArray := prog_16_method_54_code
def yJ0_length_8abf5 : MethodName := ⟨RJ0, "length", "()I"⟩
abbrev cJ0_charAt_5068e : ByteArray := prog_16_method_56_code
def yJ0_charAt_5068e : MethodName := ⟨RJ0, "charAt", "(I)C"⟩
abbrev cJ0_coder_7d493 : ByteArray := prog_16_method_152_code
def yJ0_coder_7d493 : MethodName := ⟨RJ0, "coder", "()B"⟩
abbrev cJ0_isLatin1_aae02 : ByteArray := prog_16_method_154_code
def yJ0_isLatin1_aae02 : MethodName := ⟨RJ0, "isLatin1", "()Z"⟩
abbrev cJ0_checkIndex_df160 : ByteArray := prog_16_method_155_code
def yJ0_checkIndex_df160 : MethodName := ⟨RJ0, "checkIndex", "(II)V"⟩
def RJ1 : String := "java/lang/StringLatin1"
def TJ1 : u_T := fun k => match k with
  | _ => ("", "", "", false)
def tyJ1 : Nat → FieldType := fun k => match k with
  | _ => .int
abbrev wsJ10 : List Cond := u_ws RJ1 TJ1 0
theorem nmJ1 : ∀ a, a < 0 → ∀ b, b < 0 → a ≠ b → (TJ1 a).2.1 ≠ (TJ1 b).2.1 := by decide +kernel
theorem tyJ1_ok : ∀ k, k < 0 → parseFieldDescriptor (TJ1 k).2.2.1 = some (tyJ1 k) := by decide +kernel
abbrev cJ1_charAt_3b067 : ByteArray := prog_17_method_2_code
def yJ1_charAt_3b067 : MethodName := ⟨RJ1, "charAt", "([BI)C"⟩
def RJ2 : String := "java/lang/StringUTF16"
def TJ2 : u_T := fun k => match k with
  | _ => ("", "", "", false)
def tyJ2 : Nat → FieldType := fun k => match k with
  | _ => .int
abbrev wsJ20 : List Cond := u_ws RJ2 TJ2 0
theorem nmJ2 : ∀ a, a < 0 → ∀ b, b < 0 → a ≠ b → (TJ2 a).2.1 ≠ (TJ2 b).2.1 := by decide +kernel
theorem tyJ2_ok : ∀ k, k < 0 → parseFieldDescriptor (TJ2 k).2.2.1 = some (tyJ2 k) := by decide +kernel
abbrev cJ2_getChar_3b067 : ByteArray := prog_18_method_5_code
def yJ2_getChar_3b067 : MethodName := ⟨RJ2, "getChar", "([BI)C"⟩
abbrev cJ2_length_9d52b : ByteArray := prog_18_method_6_code
def yJ2_length_9d52b : MethodName := ⟨RJ2, "length", "([B)I"⟩
abbrev cJ2_charAt_3b067 : ByteArray := prog_18_method_83_code
def yJ2_charAt_3b067 : MethodName := ⟨RJ2, "charAt", "([BI)C"⟩
abbrev cJ2_checkIndex_2214a : ByteArray := prog_18_method_91_code
def yJ2_checkIndex_2214a : MethodName := ⟨RJ2, "checkIndex", "(I[B)V"⟩
def RJ10 : String := "java/lang/System"
def TJ10 : u_T := fun k => match k with
  | _ => ("", "", "", false)
def tyJ10 : Nat → FieldType := fun k => match k with
  | _ => .int
abbrev wsJ100 : List Cond := u_ws RJ10 TJ10 0
theorem nmJ10 : ∀ a, a < 0 → ∀ b, b < 0 → a ≠ b → (TJ10 a).2.1 ≠ (TJ10 b).2.1 := by decide +kernel
theorem tyJ10_ok : ∀ k, k < 0 → parseFieldDescriptor (TJ10 k).2.2.1 = some (tyJ10 k) := by decide +kernel
def RJxfd54e : String := "java/lang/constant/Constable"
def TJxfd54e : u_T := fun k => match k with
  | _ => ("", "", "", false)
def tyJxfd54e : Nat → FieldType := fun k => match k with
  | _ => .int
abbrev wsJxfd54e0 : List Cond := u_ws RJxfd54e TJxfd54e 0
theorem nmJxfd54e : ∀ a, a < 0 → ∀ b, b < 0 → a ≠ b → (TJxfd54e a).2.1 ≠ (TJxfd54e b).2.1 := by decide +kernel
theorem tyJxfd54e_ok : ∀ k, k < 0 → parseFieldDescriptor (TJxfd54e k).2.2.1 = some (tyJxfd54e k) := by decide +kernel
def RJx3cf43 : String := "java/lang/constant/ConstantDesc"
def TJx3cf43 : u_T := fun k => match k with
  | _ => ("", "", "", false)
def tyJx3cf43 : Nat → FieldType := fun k => match k with
  | _ => .int
abbrev wsJx3cf430 : List Cond := u_ws RJx3cf43 TJx3cf43 0
theorem nmJx3cf43 : ∀ a, a < 0 → ∀ b, b < 0 → a ≠ b → (TJx3cf43 a).2.1 ≠ (TJx3cf43 b).2.1 := by decide +kernel
theorem tyJx3cf43_ok : ∀ k, k < 0 → parseFieldDescriptor (TJx3cf43 k).2.2.1 = some (tyJx3cf43 k) := by decide +kernel
def RJ7 : String := "java/util/Arrays"
def TJ7 : u_T := fun k => match k with
  | _ => ("", "", "", false)
def tyJ7 : Nat → FieldType := fun k => match k with
  | _ => .int
abbrev wsJ70 : List Cond := u_ws RJ7 TJ7 0
theorem nmJ7 : ∀ a, a < 0 → ∀ b, b < 0 → a ≠ b → (TJ7 a).2.1 ≠ (TJ7 b).2.1 := by decide +kernel
theorem tyJ7_ok : ∀ k, k < 0 → parseFieldDescriptor (TJ7 k).2.2.1 = some (tyJ7 k) := by decide +kernel
abbrev cJ7_fill_53178 : ByteArray := prog_20_method_103_code
def yJ7_fill_53178 : MethodName := ⟨RJ7, "fill", "([II)V"⟩
def RJ3 : String := "jdk/internal/util/Preconditions"
def TJ3 : u_T := fun k => match k with
  | _ => ("", "", "", false)
def tyJ3 : Nat → FieldType := fun k => match k with
  | _ => .int
abbrev wsJ30 : List Cond := u_ws RJ3 TJ3 0
theorem nmJ3 : ∀ a, a < 0 → ∀ b, b < 0 → a ≠ b → (TJ3 a).2.1 ≠ (TJ3 b).2.1 := by decide +kernel
theorem tyJ3_ok : ∀ k, k < 0 → parseFieldDescriptor (TJ3 k).2.2.1 = some (tyJ3 k) := by decide +kernel
abbrev cJ3_checkIndex_8e157 : ByteArray := prog_21_method_11_code
def yJ3_checkIndex_8e157 : MethodName := ⟨RJ3, "checkIndex", "(IILjava/util/function/BiFunction;)I"⟩
def RL : String := "SpaceLinksLaw"
abbrev cL_law : ByteArray := code
def yL_law : MethodName := ⟨RL, "law", "([I)Z"⟩
abbrev vwCl : List vw_C := [(RX0, TX0, 3), (RX1, TX1, 8), (RX2, TX2, 7), (RX3, TX3, 4), (RX4, TX4, 4), (RX6, TX6, 10), (RX7, TX7, 3), (RX8, TX8, 20), (RX9, TX9, 7), (RX10, TX10, 10), (RX11, TX11, 4), (RX12, TX12, 13)]
end
section
/-! the checker's domain: what a value may be -/
abbrev rk_AV : Type := Nat × Int × Int
def rk_toI (v : Value) : Int := match v with
  | .int x => x.toInt
  | _ => 0
/-- 0 an int in [a, b]; 1 a counter, 0 .. X + a; 2 a cell of kind a; 3 null or a cell of kind a; else anything of one slot -/
def rk_has (G : Nat → Option Nat) (X : Int) (t : rk_AV) (v : Value) : Prop := match t with
  | (0, a, b) => ∃ x : Int32, v = .int x ∧ a ≤ x.toInt ∧ x.toInt ≤ b
  | (1, a, _) => ∃ x : Int32, v = .int x ∧ 0 ≤ x.toInt ∧ x.toInt ≤ X + a
  | (2, k, _) => ∃ a : Nat, v = .ref a ∧ G a = some k.toNat
  | (3, k, _) => v = .null ∨ ∃ a : Nat, v = .ref a ∧ G a = some k.toNat
  | _ => v = .null ∨ (∃ a : Nat, v = .ref a) ∨ ∃ x : Int32, v = .int x
def rk_le (t u : rk_AV) : Bool := match u with
  | (0, c, d) => (match t with
    | (0, a, b) => decide (c ≤ a) && decide (b ≤ d)
    | (1, _, _) => decide (c ≤ 0) && decide (2147483647 ≤ d)
    | _ => false)
  | (1, c, _) => (match t with
    | (0, a, b) => decide (0 ≤ a) && decide (b ≤ c)
    | (1, a, _) => decide (a ≤ c)
    | _ => false)
  | (2, k, _) => (match t with
    | (2, j, _) => decide (j = k)
    | _ => false)
  | (3, k, _) => (match t with
    | (2, j, _) => decide (j = k)
    | (3, j, _) => decide (j = k)
    | _ => false)
  | _ => true
theorem rk_i_lo (x : Int32) : -2147483648 ≤ x.toInt := by
  have h := Int32.le_toInt x
  simpa using h
theorem rk_i_hi (x : Int32) : x.toInt ≤ 2147483647 := by
  have h := Int32.toInt_lt x
  omega
theorem rk_has_cat {G : Nat → Option Nat} {X : Int} {t : rk_AV} {v : Value} (h : rk_has G X t v) : v.category = 1 := by
  obtain ⟨n, a, b⟩ := t
  rcases n with _ | _ | _ | _ | n
  · obtain ⟨x, rfl, -⟩ := h; rfl
  · obtain ⟨x, rfl, -⟩ := h; rfl
  · obtain ⟨x, rfl, -⟩ := h; rfl
  · rcases h with rfl | ⟨x, rfl, -⟩ <;> rfl
  · rcases h with rfl | ⟨x, rfl⟩ | ⟨x, rfl⟩ <;> rfl
theorem rk_has_any {G : Nat → Option Nat} {X : Int} {t : rk_AV} {v : Value} (h : rk_has G X t v) : v = .null ∨ (∃ a : Nat, v = .ref a) ∨ ∃ x : Int32, v = .int x := by
  obtain ⟨n, a, b⟩ := t
  rcases n with _ | _ | _ | _ | n
  · obtain ⟨x, rfl, -⟩ := h; exact Or.inr (Or.inr ⟨_, rfl⟩)
  · obtain ⟨x, rfl, -⟩ := h; exact Or.inr (Or.inr ⟨_, rfl⟩)
  · obtain ⟨x, rfl, -⟩ := h; exact Or.inr (Or.inl ⟨_, rfl⟩)
  · rcases h with rfl | ⟨x, rfl, -⟩
    · exact Or.inl rfl
    · exact Or.inr (Or.inl ⟨_, rfl⟩)
  · exact h
theorem rk_le_ok {G : Nat → Option Nat} {X : Int} {t u : rk_AV} {v : Value} (hX : 0 ≤ X) (h : rk_le t u = true) (hv : rk_has G X t v) : rk_has G X u v := by
  obtain ⟨m, c, d⟩ := u
  have hany := rk_has_any hv
  obtain ⟨n, a, b⟩ := t
  rcases m with _ | _ | _ | _ | m
  · rcases n with _ | _ | n
    · simp only [rk_le, Bool.and_eq_true, decide_eq_true_eq] at h
      obtain ⟨x, rfl, h1, h2⟩ := hv
      exact ⟨x, rfl, by omega, by omega⟩
    · simp only [rk_le, Bool.and_eq_true, decide_eq_true_eq] at h
      obtain ⟨x, rfl, h1, h2⟩ := hv
      have := rk_i_hi x
      exact ⟨x, rfl, by omega, by omega⟩
    · simp [rk_le] at h
  · rcases n with _ | _ | n
    · simp only [rk_le, Bool.and_eq_true, decide_eq_true_eq] at h
      obtain ⟨x, rfl, h1, h2⟩ := hv
      exact ⟨x, rfl, by omega, by omega⟩
    · simp only [rk_le, decide_eq_true_eq] at h
      obtain ⟨x, rfl, h1, h2⟩ := hv
      exact ⟨x, rfl, by omega, by omega⟩
    · simp [rk_le] at h
  · rcases n with _ | _ | _ | n
    · simp [rk_le] at h
    · simp [rk_le] at h
    · simp only [rk_le, decide_eq_true_eq] at h
      subst h
      exact hv
    · simp [rk_le] at h
  · rcases n with _ | _ | _ | _ | n
    · simp [rk_le] at h
    · simp [rk_le] at h
    · simp only [rk_le, decide_eq_true_eq] at h
      subst h
      exact Or.inr hv
    · simp only [rk_le, decide_eq_true_eq] at h
      subst h
      exact hv
    · simp [rk_le] at h
  · exact hany
theorem rk_has_X {G : Nat → Option Nat} {X Y : Int} {t : rk_AV} {v : Value} (hXY : X ≤ Y) (h : rk_has G X t v) : rk_has G Y t v := by
  obtain ⟨n, a, b⟩ := t
  rcases n with _ | _ | _ | _ | n
  · exact h
  · obtain ⟨x, rfl, h1, h2⟩ := h
    exact ⟨x, rfl, h1, by omega⟩
  · exact h
  · exact h
  · exact h
theorem rk_has_G {G G2 : Nat → Option Nat} {X : Int} {t : rk_AV} {v : Value} (hG : ∀ a k, G a = some k → G2 a = some k) (h : rk_has G X t v) : rk_has G2 X t v := by
  obtain ⟨n, a, b⟩ := t
  rcases n with _ | _ | _ | _ | n
  · exact h
  · exact h
  · obtain ⟨x, rfl, h1⟩ := h
    exact ⟨x, rfl, hG _ _ h1⟩
  · rcases h with rfl | ⟨x, rfl, h1⟩
    · exact Or.inl rfl
    · exact Or.inr ⟨x, rfl, hG _ _ h1⟩
  · exact h
/-- as an int -/
def rk_iv (t : rk_AV) : Option (Int × Int) := match t with
  | (0, a, b) => some (a, b)
  | (1, _, _) => some (0, 2147483647)
  | _ => none
theorem rk_iv_ok {G : Nat → Option Nat} {X : Int} {t : rk_AV} {v : Value} {a b : Int} (h : rk_iv t = some (a, b)) (hv : rk_has G X t v) : ∃ x : Int32, v = .int x ∧ a ≤ x.toInt ∧ x.toInt ≤ b := by
  obtain ⟨n, c, d⟩ := t
  rcases n with _ | _ | n
  · simp only [rk_iv, Option.some.injEq, Prod.mk.injEq] at h
    obtain ⟨rfl, rfl⟩ := h
    exact hv
  · simp only [rk_iv, Option.some.injEq, Prod.mk.injEq] at h
    obtain ⟨rfl, rfl⟩ := h
    obtain ⟨x, rfl, h1, h2⟩ := hv
    exact ⟨x, rfl, h1, rk_i_hi x⟩
  · simp [rk_iv] at h
def rk_full : rk_AV := (0, -2147483648, 2147483647)
def rk_fit (a b : Int) : rk_AV := if -2147483648 ≤ a ∧ b ≤ 2147483647 then (0, a, b) else rk_full
theorem rk_full_ok {G : Nat → Option Nat} {X : Int} (x : Int32) : rk_has G X rk_full (.int x) := ⟨x, rfl, rk_i_lo x, rk_i_hi x⟩
/-- a whole number that fits is what the machine has -/
theorem rk_bmod {n : Int} (h1 : -2147483648 ≤ n) (h2 : n ≤ 2147483647) : n.bmod (2 ^ 32) = n := by
  rw [Int.bmod_eq_of_le] <;> omega
theorem rk_add_e {x y : Int32} (h1 : -2147483648 ≤ x.toInt + y.toInt) (h2 : x.toInt + y.toInt ≤ 2147483647) : (x + y).toInt = x.toInt + y.toInt := by
  rw [Int32.toInt_add, rk_bmod h1 h2]
theorem rk_sub_e {x y : Int32} (h1 : -2147483648 ≤ x.toInt - y.toInt) (h2 : x.toInt - y.toInt ≤ 2147483647) : (x - y).toInt = x.toInt - y.toInt := by
  rw [Int32.toInt_sub, rk_bmod h1 h2]
theorem rk_mul_e {x y : Int32} (h1 : -2147483648 ≤ x.toInt * y.toInt) (h2 : x.toInt * y.toInt ≤ 2147483647) : (x * y).toInt = x.toInt * y.toInt := by
  rw [Int32.toInt_mul, rk_bmod h1 h2]
theorem rk_nI {x : Int32} (h : 0 ≤ x.toInt) : ∃ n : Nat, x = nI n ∧ x.toInt = (n : Int) ∧ n < 2 ^ 31 := by
  have h2 := rk_i_hi x
  refine ⟨x.toInt.toNat, ?_, by omega, by omega⟩
  apply Int32.toInt_inj.mp
  rw [nI_toInt (by omega)]
  omega
theorem rk_div_e {x y : Int32} (h1 : 0 ≤ x.toInt) (h2 : 0 < y.toInt) : (x / y).toInt = x.toInt / y.toInt := by
  obtain ⟨a, rfl, e1, l1⟩ := rk_nI h1
  obtain ⟨b, rfl, e2, l2⟩ := rk_nI (Int.le_of_lt h2)
  rw [pk_div l1 (by omega) l2, e1, e2, nI_toInt (by
    have := Nat.div_le_self a b
    omega)]
  exact Int.natCast_ediv a b
theorem rk_rem_e {x y : Int32} (h1 : 0 ≤ x.toInt) (h2 : 0 < y.toInt) : (x - x / y * y).toInt = x.toInt % y.toInt := by
  obtain ⟨a, rfl, e1, l1⟩ := rk_nI h1
  obtain ⟨b, rfl, e2, l2⟩ := rk_nI (Int.le_of_lt h2)
  rw [pk_rem l1 (by omega) l2, e1, e2, nI_toInt (by
    have := Nat.mod_le a b
    omega)]
  exact Int.natCast_emod a b
theorem rk_and_r {x y : Int32} (h : 0 ≤ y.toInt) : 0 ≤ (x &&& y).toInt ∧ (x &&& y).toInt ≤ y.toInt := by
  obtain ⟨b, rfl, e2, l2⟩ := rk_nI h
  have hb : (nI b).toBitVec.toNat = b := pk_tn (by omega)
  have h1 : (x &&& nI b).toBitVec.toNat ≤ b := by
    rw [Int32.toBitVec_and, BitVec.toNat_and, hb]
    exact Nat.and_le_right
  have h2 : (x &&& nI b).toInt = ((x &&& nI b).toBitVec.toNat : Int) := by
    show (x &&& nI b).toBitVec.toInt = _
    rw [BitVec.toInt_eq_toNat_cond, if_pos (by omega)]
  rw [h2, e2]
  omega
theorem rk_and_c (x y : Int32) : x &&& y = y &&& x := by
  apply Int32.toBitVec_inj.mp
  rw [Int32.toBitVec_and, Int32.toBitVec_and, BitVec.and_comm]
theorem rk_and_l {x y : Int32} (h : 0 ≤ x.toInt) : 0 ≤ (x &&& y).toInt ∧ (x &&& y).toInt ≤ x.toInt := by
  rw [rk_and_c]
  exact rk_and_r h
theorem rk_ushr8 (x : Int32) : 0 ≤ (x.toUInt32 >>> ((8 : Int32).toUInt32 &&& Int32.toUInt32 31)).toInt32.toInt ∧ (x.toUInt32 >>> ((8 : Int32).toUInt32 &&& Int32.toUInt32 31)).toInt32.toInt ≤ 16777215 := by
  have h := pk_ushr x 8 8 (by decide)
  have hx : x.toBitVec.toNat < 2 ^ 32 := x.toBitVec.isLt
  generalize (x.toUInt32 >>> ((8 : Int32).toUInt32 &&& Int32.toUInt32 31)).toInt32 = z at h ⊢
  have h2 : z.toInt = (z.toBitVec.toNat : Int) := by
    show z.toBitVec.toInt = _
    rw [BitVec.toInt_eq_toNat_cond, if_pos (by omega)]
  rw [h2, h]
  omega
end
section
/-! typed worlds: a kind for each address; the cells of a kind -/
abbrev rk_KD : Type := Nat × Nat × Nat × List rk_AV
/-- (0, ci, _, types): an object of class ci; (1, n, _, _): n ints; (2, n, t0, _): n references, of the array class number t0 -/
def rk_cell (K : Nat → rk_KD) (E : Nat → Nat → rk_AV) (tys : List (ClassId × FieldType)) (G : Nat → Option Nat) (X : Int) (k : Nat) (e : va_E) : Prop := match K k with
  | (0, ci, _, ts) => ∃ fs : List Value, e = .inr (ci, fs) ∧ fs.length = ts.length ∧ ∀ (i : Nat) (t : rk_AV) (v : Value), ts[i]? = some t → fs[i]? = some v → rk_has G X t v
  | (1, n, _, _) => ∃ (cA : ClassId) (g : Nat → Int32), e = .inl (cA, n, .inl g) ∧ tys[0]? = some (cA, .int) ∧ ∀ i, i < n → rk_has G X (E k i) (.int (g i))
  | (_, n, t0, _) => ∃ (cA : ClassId) (C : String) (g : Nat → Option Nat), e = .inl (cA, n, .inr (.inr (.inr (.inr g)))) ∧ tys[t0]? = some (cA, .object C) ∧ ∀ i, i < n → rk_has G X (E k i) (va_rf (g i))
def rk_TY (K : Nat → rk_KD) (E : Nat → Nat → rk_AV) (tys : List (ClassId × FieldType)) (G : Nat → Option Nat) (X : Int) (L : List Nat) (f : Nat → va_E) : Prop := (∀ a k, G a = some k → (K k).1 ≠ 9 → a ∈ L ∧ rk_cell K E tys G X k (f a)) ∧ ∀ a k, (K k).1 = 9 → (G a = some k ↔ (E k 0).2.1 = (a : Int))
theorem rk_cell_X {K : Nat → rk_KD} {E : Nat → Nat → rk_AV} {tys : List (ClassId × FieldType)} {G : Nat → Option Nat} {X Y : Int} {k : Nat} {e : va_E} (h : X ≤ Y) (hc : rk_cell K E tys G X k e) : rk_cell K E tys G Y k e := by
  unfold rk_cell at hc ⊢
  generalize K k = kd at hc ⊢
  obtain ⟨n, ci, t0, ts⟩ := kd
  rcases n with _ | _ | n
  · obtain ⟨fs, h1, h2, h3⟩ := hc
    exact ⟨fs, h1, h2, fun i t v a b => rk_has_X h (h3 i t v a b)⟩
  · obtain ⟨cA, g, h1, h2, h3⟩ := hc
    exact ⟨cA, g, h1, h2, fun i hi => rk_has_X h (h3 i hi)⟩
  · obtain ⟨cA, C, g, h1, h2, h3⟩ := hc
    exact ⟨cA, C, g, h1, h2, fun i hi => rk_has_X h (h3 i hi)⟩
theorem rk_TY_X {K : Nat → rk_KD} {E : Nat → Nat → rk_AV} {tys : List (ClassId × FieldType)} {G : Nat → Option Nat} {X Y : Int} {L : List Nat} {f : Nat → va_E} (h : X ≤ Y) (hc : rk_TY K E tys G X L f) : rk_TY K E tys G Y L f := ⟨fun a k ha hk => ⟨(hc.1 a k ha hk).1, rk_cell_X h (hc.1 a k ha hk).2⟩, hc.2⟩
theorem rk_TY_up {K : Nat → rk_KD} {E : Nat → Nat → rk_AV} {tys : List (ClassId × FieldType)} {G : Nat → Option Nat} {X : Int} {L : List Nat} {f : Nat → va_E} {a k : Nat} {e : va_E} (hc : rk_TY K E tys G X L f) (ha : G a = some k) (he : rk_cell K E tys G X k e) : rk_TY K E tys G X L (va_up f a e) := by
  refine ⟨fun b j hb hj => ?_, hc.2⟩
  refine ⟨(hc.1 b j hb hj).1, ?_⟩
  by_cases hba : b = a
  · subst hba
    rw [hb] at ha
    cases ha
    rw [va_up_self]
    exact he
  · rw [va_up_ne _ _ hba]
    exact (hc.1 b j hb hj).2
/-! the symbolic state: locals, stack, what each symbol may be, known fields, facts, cost -/
abbrev rk_St : Type := List (Nat × Nat) × List Nat × List rk_AV × List (Nat × Nat × Nat) × List (Nat × Nat × Nat × Int) × Int
def rk_fld (e : va_E) (i : Nat) : Option Value := match e with
  | .inr o => o.2[i]?
  | .inl _ => none
/-- what stands in a row, at a place -/
def rk_elt (e : va_E) (v : Value) : Option Value := match e with
  | .inl (_, _, .inl g) => (match v with
    | .int i => some (.int (g i.toNatClampNeg))
    | _ => none)
  | .inl (_, _, .inr (.inr (.inr (.inr g)))) => (match v with
    | .int i => some (va_rf (g i.toNatClampNeg))
    | _ => none)
  | _ => none
/-- a known field, or (from 1000000 on) a known place of a row -/
def rk_kf (r : Nat → Value) (e : va_E) (i : Nat) : Option Value := if i < 1000000 then rk_fld e i else rk_elt e (r (i - 1000000))
def rk_fact (r : Nat → Value) (q : Nat × Nat × Nat × Int) : Prop := match q with
  | (0, y, x, c) => rk_toI (r y) = rk_toI (r x) + c
  | (1, x, y, _) => rk_toI (r x) < rk_toI (r y)
  | (2, y, x, c) => rk_toI (r y) = rk_toI (r x) % c
  | (3, z, x, y) => ∃ a b : Int32, r x = .int a ∧ r y.toNat = .int b ∧ r z = .int (a + b)
  | _ => True
/-- the fixed things of a walk: what is wanted of the cells (in a method that changes none), kinds, layouts, array classes, class numbers, classes, what may change, the start's heap, the typing, the cells, the locals' number, the counters' bound at the start -/
abbrev rk_Fx : Type := ((Nat → va_E) → Prop) × (Nat → rk_KD) × (Nat → Nat → rk_AV) × List (ClassId × FieldType) × va_G × (Nat → Prop) × Heap × (Nat → Option Nat) × List Nat × Nat × Int
def rk_w (F : rk_Fx) (co : Int) (f : Nat → va_E) (H : Heap) (locs : List Loc) : Prop := match F with
  | (Pf, K, E, tys, D, A, H0, G, L, _, X) => va_P D vwCl (va_pl L f) H ∧ va_D A (va_pl L f) ∧ va_S A H0 H locs ∧ rk_TY K E tys G (X + co) L f ∧ Pf f
abbrev rk_fG (F : rk_Fx) : Nat → Option Nat := F.2.2.2.2.2.2.2.1
abbrev rk_fn (F : rk_Fx) : Nat := F.2.2.2.2.2.2.2.2.2.1
abbrev rk_fX (F : rk_Fx) : Int := F.2.2.2.2.2.2.2.2.2.2
def rk_on (F : rk_Fx) (nE : Nat) (r0 r : Nat → Value) (S : rk_St) (f : Nat → va_E) (H : Heap) (locs : List Loc) (ls : Array Slot) (st : List Value) : Prop := match S with
  | (lo, sk, en, kn, fc, co) =>
    (∀ y t, en[y]? = some t → rk_has (rk_fG F) (rk_fX F + co) t (r y)) ∧ (∀ q ∈ kn, ∃ a, r q.1 = .ref a ∧ rk_kf r (f a) q.2.1 = some (r q.2.2)) ∧ (∀ q ∈ fc, rk_fact r q) ∧
    lv_has ls (rk_fn F) (lo.map fun q => (q.1, r q.2)) ∧ st = sk.map r ∧ (∀ y, y < nE → r y = r0 y) ∧ (0 ≤ co ∧ co ≤ 10000000) ∧ rk_w F co f H locs
def rk_wf (nE : Nat) (S : rk_St) : Bool := match S with
  | (lo, sk, en, kn, fc, _) =>
    let n := en.length
    Nat.ble nE n && (lo.all (fun q => Nat.blt q.2 n) && (sk.all (fun y => Nat.blt y n) && (kn.all (fun q => Nat.blt q.1 n && (Nat.blt q.2.2 n && Nat.blt q.2.1 (1000000 + n))) && fc.all (fun q => Nat.blt q.2.1 n && (Nat.blt q.2.2.1 n && (Nat.blt q.2.2.2.toNat n || !(Nat.beq q.1 3)))))))
section RKP
variable {F : rk_Fx} {nE : Nat} {r0 r : Nat → Value} {lo : List (Nat × Nat)} {sk : List Nat} {en : List rk_AV} {kn : List (Nat × Nat × Nat)} {fc : List (Nat × Nat × Nat × Int)} {co : Int} {f : Nat → va_E} {H : Heap} {locs : List Loc} {ls : Array Slot} {st : List Value}
theorem rk_fact_eq {r r' : Nat → Value} {q : Nat × Nat × Nat × Int} (h1 : r' q.2.1 = r q.2.1) (h2 : r' q.2.2.1 = r q.2.2.1) (h3 : q.1 = 3 → r' q.2.2.2.toNat = r q.2.2.2.toNat) (h : rk_fact r q) : rk_fact r' q := by
  obtain ⟨n, x, y, c⟩ := q
  dsimp only at h1 h2 h3
  rcases n with _ | _ | _ | _ | n
  · simp only [rk_fact] at h ⊢; rw [h1, h2]; exact h
  · simp only [rk_fact] at h ⊢; rw [h1, h2]; exact h
  · simp only [rk_fact] at h ⊢; rw [h1, h2]; exact h
  · simp only [rk_fact] at h ⊢; rw [h1, h2, h3 rfl]; exact h
  · trivial
/-- a new symbol may be anything -/
theorem rk_fresh (h : rk_on F nE r0 r (lo, sk, en, kn, fc, co) f H locs ls st) (hw : rk_wf nE (lo, sk, en, kn, fc, co) = true) (v : Value) : ∃ r' : Nat → Value, r' en.length = v ∧ (∀ y, y < en.length → r' y = r y) ∧ rk_on F nE r0 r' (lo, sk, en, kn, fc, co) f H locs ls st := by
  obtain ⟨h1, h2, h3, h4, h5, h6, h7, h8⟩ := h
  simp only [rk_wf, Bool.and_eq_true, Bool.or_eq_true, List.all_eq_true, Nat.blt_eq, Nat.ble_eq] at hw
  obtain ⟨w0, w1, w2, w3, w4⟩ := hw
  obtain ⟨r', e0, e⟩ : ∃ r' : Nat → Value, r' en.length = v ∧ ∀ y, y < en.length → r' y = r y := ⟨fun z => if z = en.length then v else r z, if_pos rfl, fun y hy => if_neg (by omega)⟩
  refine ⟨r', e0, e, ?_, ?_, ?_, ?_, ?_, ?_, h7, h8⟩
  · intro y t ht
    rw [e y (List.getElem?_eq_some_iff.mp ht).1]
    exact h1 y t ht
  · intro q hq
    obtain ⟨a, e1, e2⟩ := h2 q hq
    have := w3 q hq
    refine ⟨a, ?_, ?_⟩
    · rw [e _ this.1]; exact e1
    · rw [e _ this.2.1]
      unfold rk_kf at e2 ⊢
      split
      · rename_i hi
        rw [if_pos hi] at e2
        exact e2
      · rename_i hi
        rw [if_neg hi] at e2
        rw [e _ (by omega)]
        exact e2
  · intro q hq
    have := w4 q hq
    exact rk_fact_eq (e _ this.1) (e _ this.2.1) (fun h9 => e _ (by
      rcases this.2.2 with h8 | h8
      · exact h8
      · rw [h9] at h8
        simp at h8)) (h3 q hq)
  · have : (lo.map fun q => (q.1, r' q.2)) = lo.map fun q => (q.1, r q.2) := by
      apply List.map_congr_left
      intro q hq
      rw [e _ (w1 q hq)]
    rw [this]
    exact h4
  · rw [h5]
    apply List.map_congr_left
    intro y hy
    rw [e _ (w2 y hy)]
  · intro y hy
    rw [e _ (by omega)]
    exact h6 y hy
/-- the new symbol enters -/
theorem rk_enter {t : rk_AV} (h : rk_on F nE r0 r (lo, sk, en, kn, fc, co) f H locs ls st) (ht : rk_has (rk_fG F) (rk_fX F + co) t (r en.length)) : rk_on F nE r0 r (lo, sk, en ++ [t], kn, fc, co) f H locs ls st := by
  obtain ⟨h1, h⟩ := h
  refine ⟨fun y u hu => ?_, h⟩
  by_cases hy : y < en.length
  · rw [List.getElem?_append_left hy] at hu
    exact h1 y u hu
  · rw [List.getElem?_append_right (by omega)] at hu
    have hz : y - en.length < 1 := (List.getElem?_eq_some_iff.mp hu).1
    have : y = en.length := by omega
    subst this
    rw [Nat.sub_self] at hu
    cases hu
    exact ht
theorem rk_push (y : Nat) (h : rk_on F nE r0 r (lo, sk, en, kn, fc, co) f H locs ls st) : rk_on F nE r0 r (lo, y :: sk, en, kn, fc, co) f H locs ls (r y :: st) := by
  obtain ⟨h1, h2, h3, h4, h5, h⟩ := h
  exact ⟨h1, h2, h3, h4, by rw [h5]; rfl, h⟩
theorem rk_pop {y : Nat} (h : rk_on F nE r0 r (lo, y :: sk, en, kn, fc, co) f H locs ls st) : ∃ st', st = r y :: st' ∧ rk_on F nE r0 r (lo, sk, en, kn, fc, co) f H locs ls st' := by
  obtain ⟨h1, h2, h3, h4, h5, h⟩ := h
  exact ⟨sk.map r, h5, h1, h2, h3, h4, rfl, h⟩
theorem rk_addf {q : Nat × Nat × Nat × Int} (h : rk_on F nE r0 r (lo, sk, en, kn, fc, co) f H locs ls st) (hq : rk_fact r q) : rk_on F nE r0 r (lo, sk, en, kn, q :: fc, co) f H locs ls st := by
  obtain ⟨h1, h2, h3, h⟩ := h
  refine ⟨h1, h2, fun p hp => ?_, h⟩
  rcases List.mem_cons.mp hp with rfl | hp
  · exact hq
  · exact h3 p hp
theorem rk_addk {q : Nat × Nat × Nat} (h : rk_on F nE r0 r (lo, sk, en, kn, fc, co) f H locs ls st) (hq : ∃ a, r q.1 = .ref a ∧ rk_kf r (f a) q.2.1 = some (r q.2.2)) : rk_on F nE r0 r (lo, sk, en, q :: kn, fc, co) f H locs ls st := by
  obtain ⟨h1, h2, h3, h⟩ := h
  refine ⟨h1, fun p hp => ?_, h3, h⟩
  rcases List.mem_cons.mp hp with rfl | hp
  · exact hq
  · exact h2 p hp
theorem rk_ref {y : Nat} {t : rk_AV} (h : rk_on F nE r0 r (lo, sk, en, kn, fc, co) f H locs ls st) (ht : rk_has (rk_fG F) (rk_fX F + co) t (r y)) : rk_on F nE r0 r (lo, sk, en.set y t, kn, fc, co) f H locs ls st := by
  obtain ⟨h1, h⟩ := h
  refine ⟨fun z u hu => ?_, h⟩
  by_cases hz : z = y
  · subst hz
    by_cases hl : z < en.length
    · rw [List.getElem?_set_self hl] at hu
      cases hu
      exact ht
    · rw [List.set_eq_of_length_le (by omega)] at hu
      exact h1 z u hu
  · rw [List.getElem?_set_ne (Ne.symm hz)] at hu
    exact h1 z u hu
theorem rk_val {y : Nat} {t : rk_AV} (h : rk_on F nE r0 r (lo, sk, en, kn, fc, co) f H locs ls st) (ht : en[y]? = some t) : rk_has (rk_fG F) (rk_fX F + co) t (r y) := h.1 y t ht
end RKP
end
section
/-! arithmetic of the checker -/
def rk_cst (t : rk_AV) : Option Int := match t with
  | (0, a, b) => if a = b then some a else none
  | _ => none
theorem rk_cst_ok {G : Nat → Option Nat} {X : Int} {t : rk_AV} {c : Int} {y : Int32} (h : rk_cst t = some c) (hv : rk_has G X t (.int y)) : y.toInt = c := by
  obtain ⟨n, a, b⟩ := t
  rcases n with _ | n
  · simp only [rk_cst] at h
    split at h
    · rename_i hab
      cases h
      obtain ⟨x, e, h1, h2⟩ := hv
      cases e
      omega
    · cases h
  · simp [rk_cst] at h
def rk_exact (t : rk_AV) (c : Int) : Bool := match t with
  | (0, a, b) => decide (-2147483648 ≤ a + c) && decide (b + c ≤ 2147483647)
  | (1, d, _) => decide (-2147483648 ≤ c) && decide (d + c ≤ 100000000)
  | _ => false
theorem rk_exact_ok {G : Nat → Option Nat} {X : Int} {t : rk_AV} {c : Int} {x : Int32} (hX : X + 100000000 ≤ 2147483647) (h : rk_exact t c = true) (hv : rk_has G X t (.int x)) : -2147483648 ≤ x.toInt + c ∧ x.toInt + c ≤ 2147483647 := by
  obtain ⟨n, a, b⟩ := t
  rcases n with _ | _ | n
  · simp only [rk_exact, Bool.and_eq_true, decide_eq_true_eq] at h
    obtain ⟨z, e, h1, h2⟩ := hv
    cases e
    omega
  · simp only [rk_exact, Bool.and_eq_true, decide_eq_true_eq] at h
    obtain ⟨z, e, h1, h2⟩ := hv
    cases e
    omega
  · simp [rk_exact] at h
def rk_add (tx ty : rk_AV) : rk_AV := match tx with
  | (0, a, b) => (match ty with
    | (0, c, d) => rk_fit (a + c) (b + d)
    | (1, e, _) => if 0 ≤ a ∧ e + b ≤ 100000000 then (1, e + b, 0) else rk_full
    | _ => rk_full)
  | (1, e, _) => (match ty with
    | (0, c, d) => if 0 ≤ c ∧ e + d ≤ 100000000 then (1, e + d, 0) else rk_full
    | _ => rk_full)
  | _ => rk_full
theorem rk_add_ok {G : Nat → Option Nat} {X : Int} {tx ty : rk_AV} {x y : Int32} (hX : X + 100000000 ≤ 2147483647) (h1 : rk_has G X tx (.int x)) (h2 : rk_has G X ty (.int y)) : rk_has G X (rk_add tx ty) (.int (x + y)) := by
  obtain ⟨n, a, b⟩ := tx
  obtain ⟨m, c, d⟩ := ty
  rcases n with _ | _ | n
  · rcases m with _ | _ | m
    · simp only [rk_add, rk_fit]
      split
      · obtain ⟨z, e, p1, p2⟩ := h1
        cases e
        obtain ⟨z, e, q1, q2⟩ := h2
        cases e
        refine ⟨_, rfl, ?_, ?_⟩ <;> rw [rk_add_e] <;> omega
      · exact rk_full_ok _
    · simp only [rk_add]
      split
      · obtain ⟨z, e, p1, p2⟩ := h1
        cases e
        obtain ⟨z, e, q1, q2⟩ := h2
        cases e
        refine ⟨_, rfl, ?_, ?_⟩ <;> rw [rk_add_e] <;> omega
      · exact rk_full_ok _
    · exact rk_full_ok _
  · rcases m with _ | m
    · simp only [rk_add]
      split
      · obtain ⟨z, e, p1, p2⟩ := h1
        cases e
        obtain ⟨z, e, q1, q2⟩ := h2
        cases e
        refine ⟨_, rfl, ?_, ?_⟩ <;> rw [rk_add_e] <;> omega
      · exact rk_full_ok _
    · exact rk_full_ok _
  · exact rk_full_ok _
/-- what is known of x - y by the facts -/
def rk_lb1 (fc : List (Nat × Nat × Nat × Int)) (x y : Nat) : Bool := fc.any (fun q => Nat.beq q.1 1 && (Nat.beq q.2.1 x && Nat.beq q.2.2.1 y))
def rk_lb (f0 : List (Nat × Nat × Nat × Int)) (sx sy : Nat) : List (Nat × Nat × Nat × Int) → Int
  | [] => -4294967296
  | q :: l => if Nat.beq q.1 0 && (Nat.beq q.2.1 sx && rk_lb1 f0 sy q.2.2.1) then max (q.2.2.2 + 1) (rk_lb f0 sx sy l) else rk_lb f0 sx sy l
theorem rk_lb1_ok {r : Nat → Value} {fc : List (Nat × Nat × Nat × Int)} {x y : Nat} (hf : ∀ q ∈ fc, rk_fact r q) (h : rk_lb1 fc x y = true) : rk_toI (r x) < rk_toI (r y) := by
  simp only [rk_lb1, List.any_eq_true, Bool.and_eq_true, Nat.beq_eq] at h
  obtain ⟨⟨n, a, b, c⟩, hq, e1, e2, e3⟩ := h
  dsimp only at e1 e2 e3
  subst e1 e2 e3
  exact hf _ hq
theorem rk_lb_ok {r : Nat → Value} {f0 : List (Nat × Nat × Nat × Int)} {sx sy : Nat} (hf : ∀ q ∈ f0, rk_fact r q) : ∀ fc : List (Nat × Nat × Nat × Int), (∀ q ∈ fc, rk_fact r q) → -4294967296 ≤ rk_toI (r sx) - rk_toI (r sy) → rk_lb f0 sx sy fc ≤ rk_toI (r sx) - rk_toI (r sy)
  | [], _, h => h
  | q :: l, hl, h => by
    have ih := rk_lb_ok (sx := sx) (sy := sy) hf l (fun p hp => hl p (List.mem_cons_of_mem _ hp)) h
    have hq := hl q List.mem_cons_self
    unfold rk_lb
    split
    · rename_i hc
      simp only [Bool.and_eq_true, Nat.beq_eq] at hc
      obtain ⟨n, a, b, c⟩ := q
      dsimp only at hc ⊢
      obtain ⟨rfl, rfl, h3⟩ := hc
      have h4 := rk_lb1_ok hf h3
      simp only [rk_fact] at hq
      omega
    · exact ih
def rk_rm (sx sy : Nat) : List (Nat × Nat × Nat × Int) → Option Int
  | [] => none
  | q :: l => if Nat.beq q.1 2 && (Nat.beq q.2.1 sy && Nat.beq q.2.2.1 sx) then some q.2.2.2 else rk_rm sx sy l
theorem rk_rm_ok {r : Nat → Value} {sx sy : Nat} {c : Int} : ∀ fc : List (Nat × Nat × Nat × Int), (∀ q ∈ fc, rk_fact r q) → rk_rm sx sy fc = some c → rk_toI (r sy) = rk_toI (r sx) % c
  | [], _, h => by simp [rk_rm] at h
  | q :: l, hl, h => by
    unfold rk_rm at h
    split at h
    · rename_i hc
      have hq := hl q List.mem_cons_self
      simp only [Bool.and_eq_true, Nat.beq_eq] at hc
      obtain ⟨n, a, b, d⟩ := q
      dsimp only at hc h
      obtain ⟨rfl, rfl, rfl⟩ := hc
      cases h
      exact hq
    · exact rk_rm_ok l (fun p hp => hl p (List.mem_cons_of_mem _ hp)) h
def rk_sub (fc : List (Nat × Nat × Nat × Int)) (sx sy : Nat) (tx ty : rk_AV) : rk_AV := match rk_iv tx with
  | none => rk_full
  | some (a, b) => match rk_iv ty with
    | none => rk_full
    | some (c, d) => match (if 0 ≤ a then rk_rm sx sy fc else none) with
      | some m => if 0 < m ∧ b ≤ 2147483647 then (0, m * (a / m), m * (b / m)) else rk_full
      | none => if -2147483648 ≤ a - d ∧ b - c ≤ 2147483647 then (0, max (a - d) (max (rk_lb fc sx sy fc) (if rk_lb1 fc sy sx then 1 else -4294967296)), b - c) else rk_full
theorem rk_sub_ok {G : Nat → Option Nat} {X : Int} {r : Nat → Value} {fc : List (Nat × Nat × Nat × Int)} {sx sy : Nat} {tx ty : rk_AV} {x y : Int32} (hf : ∀ q ∈ fc, rk_fact r q) (ex : r sx = .int x) (ey : r sy = .int y) (h1 : rk_has G X tx (.int x)) (h2 : rk_has G X ty (.int y)) : rk_has G X (rk_sub fc sx sy tx ty) (.int (x - y)) := by
  unfold rk_sub
  split
  · exact rk_full_ok _
  · rename_i a b hab
    split
    · exact rk_full_ok _
    · rename_i c d hcd
      obtain ⟨z, e, p1, p2⟩ := rk_iv_ok hab h1
      cases e
      obtain ⟨z, e, q1, q2⟩ := rk_iv_ok hcd h2
      cases e
      split
      · rename_i m hm
        split at hm
        · rename_i ha
          have hr := rk_rm_ok fc hf hm
          rw [ex, ey] at hr
          simp only [rk_toI] at hr
          split
          · rename_i hm0
            have hx0 : 0 ≤ x.toInt := by omega
            have e1 := Int.mul_ediv_add_emod x.toInt m
            have e2 : x.toInt - y.toInt = m * (x.toInt / m) := by omega
            have l0 := Int.emod_nonneg x.toInt (by omega : m ≠ 0)
            have l1 : m * (a / m) ≤ m * (x.toInt / m) := Int.mul_le_mul_of_nonneg_left (Int.ediv_le_ediv (by omega) p1) (by omega)
            have l2 : m * (x.toInt / m) ≤ m * (b / m) := Int.mul_le_mul_of_nonneg_left (Int.ediv_le_ediv (by omega) p2) (by omega)
            have l3 : 0 ≤ m * (x.toInt / m) := Int.mul_nonneg (by omega) (Int.ediv_nonneg hx0 (by omega))
            have l4 := rk_i_hi x
            refine ⟨_, rfl, ?_, ?_⟩ <;> rw [rk_sub_e] <;> omega
          · exact rk_full_ok _
        · cases hm
      · split
        · have hl := rk_lb_ok (sx := sx) (sy := sy) hf fc hf (by
            rw [ex, ey]
            simp only [rk_toI]
            have := rk_i_lo x
            have := rk_i_hi y
            omega)
          rw [ex, ey] at hl
          simp only [rk_toI] at hl
          have hl2 : (if rk_lb1 fc sy sx = true then 1 else -4294967296) ≤ x.toInt - y.toInt := by
            split
            · rename_i h3
              have := rk_lb1_ok hf h3
              rw [ex, ey] at this
              simp only [rk_toI] at this
              omega
            · have := rk_i_lo x
              have := rk_i_hi y
              omega
          refine ⟨_, rfl, ?_, ?_⟩ <;> rw [rk_sub_e] <;> omega
        · exact rk_full_ok _
def rk_mul (tx ty : rk_AV) : rk_AV := match rk_iv tx with
  | none => rk_full
  | some (a, b) => match rk_iv ty with
    | none => rk_full
    | some (c, d) => if 0 ≤ a ∧ 0 ≤ c then rk_fit (a * c) (b * d) else rk_full
theorem rk_mul_ok {G : Nat → Option Nat} {X : Int} {tx ty : rk_AV} {x y : Int32} (h1 : rk_has G X tx (.int x)) (h2 : rk_has G X ty (.int y)) : rk_has G X (rk_mul tx ty) (.int (x * y)) := by
  unfold rk_mul
  split
  · exact rk_full_ok _
  · rename_i a b hab
    split
    · exact rk_full_ok _
    · rename_i c d hcd
      obtain ⟨z, e, p1, p2⟩ := rk_iv_ok hab h1
      cases e
      obtain ⟨z, e, q1, q2⟩ := rk_iv_ok hcd h2
      cases e
      split
      · rename_i hp
        unfold rk_fit
        split
        · rename_i hq
          have l1 : a * c ≤ x.toInt * y.toInt := Int.mul_le_mul p1 q1 hp.2 (by omega)
          have l2 : x.toInt * y.toInt ≤ b * d := Int.mul_le_mul p2 q2 (by omega) (by omega)
          have l0 : 0 ≤ a * c := Int.mul_nonneg hp.1 hp.2
          refine ⟨_, rfl, ?_, ?_⟩ <;> rw [rk_mul_e] <;> omega
        · exact rk_full_ok _
      · exact rk_full_ok _
/-- a divisor that isn't 0 -/
def rk_nz (t : rk_AV) : Bool := match t with
  | (0, a, b) => decide (0 < a) || decide (b < 0)
  | _ => false
theorem rk_nz_ok {G : Nat → Option Nat} {X : Int} {t : rk_AV} {y : Int32} (h : rk_nz t = true) (hv : rk_has G X t (.int y)) : ¬ y = 0 := by
  obtain ⟨n, a, b⟩ := t
  rcases n with _ | n
  · simp only [rk_nz, Bool.or_eq_true, decide_eq_true_eq] at h
    obtain ⟨z, e, h1, h2⟩ := hv
    cases e
    intro h0
    subst h0
    have : (0 : Int32).toInt = 0 := rfl
    omega
  · simp [rk_nz] at h
/-- x by a number above 0, x not below 0 -/
def rk_dm (tx ty : rk_AV) : Option (Int × Int × Int) := match rk_iv tx with
  | none => none
  | some (a, b) => match rk_cst ty with
    | none => none
    | some c => if 0 ≤ a ∧ 0 < c then some (a, b, c) else none
theorem rk_dm_ok {G : Nat → Option Nat} {X : Int} {tx ty : rk_AV} {x y : Int32} {a b c : Int} (h : rk_dm tx ty = some (a, b, c)) (h1 : rk_has G X tx (.int x)) (h2 : rk_has G X ty (.int y)) : 0 ≤ a ∧ 0 < c ∧ a ≤ x.toInt ∧ x.toInt ≤ b ∧ y.toInt = c := by
  unfold rk_dm at h
  split at h
  · cases h
  · rename_i a' b' hab
    split at h
    · cases h
    · rename_i c' hc
      split at h
      · rename_i hp
        cases h
        obtain ⟨z, e, p1, p2⟩ := rk_iv_ok hab h1
        cases e
        exact ⟨hp.1, hp.2, p1, p2, rk_cst_ok hc h2⟩
      · cases h
def rk_and (tx ty : rk_AV) : rk_AV := match rk_iv ty with
  | some (c, d) => if 0 ≤ c then (0, 0, d) else (match rk_iv tx with
    | some (a, b) => if 0 ≤ a then (0, 0, b) else rk_full
    | none => rk_full)
  | none => rk_full
theorem rk_and_ok {G : Nat → Option Nat} {X : Int} {tx ty : rk_AV} {x y : Int32} (h1 : rk_has G X tx (.int x)) (h2 : rk_has G X ty (.int y)) : rk_has G X (rk_and tx ty) (.int (x &&& y)) := by
  unfold rk_and
  split
  · rename_i c d hcd
    obtain ⟨z, e, q1, q2⟩ := rk_iv_ok hcd h2
    cases e
    split
    · have := rk_and_r (x := x) (y := y) (by omega)
      exact ⟨_, rfl, by omega, by omega⟩
    · split
      · rename_i a b hab
        obtain ⟨z, e, p1, p2⟩ := rk_iv_ok hab h1
        cases e
        split
        · have := rk_and_l (x := x) (y := y) (by omega)
          exact ⟨_, rfl, by omega, by omega⟩
        · exact rk_full_ok _
      · exact rk_full_ok _
  · exact rk_full_ok _
def rk_isI (t : rk_AV) : Bool := (rk_iv t).isSome
theorem rk_isI_ok {G : Nat → Option Nat} {X : Int} {t : rk_AV} {v : Value} (h : rk_isI t = true) (hv : rk_has G X t v) : ∃ x : Int32, v = .int x := by
  unfold rk_isI at h
  cases hi : rk_iv t with
  | none => rw [hi] at h; cases h
  | some q =>
    obtain ⟨a, b⟩ := q
    obtain ⟨x, e, -⟩ := rk_iv_ok hi hv
    exact ⟨x, e⟩
/-- the machine's own -/
def rk_mop (ins : Instr) (x y : Int32) : Option Int32 := match ins with
  | .iadd => some (x + y)
  | .isub => some (x - y)
  | .imul => some (x * y)
  | .idiv => if y = 0 then none else some (x / y)
  | .irem => if y = 0 then none else some (x - x / y * y)
  | .iand => some (x &&& y)
  | .ior => some (x ||| y)
  | .ishl => some (x <<< (y &&& 31))
  | .ishr => some (x >>> (y &&& 31))
  | .iushr => some (x.toUInt32 >>> (y.toUInt32 &&& Int32.toUInt32 31)).toInt32
  | _ => none
def rk_lin (n s : Nat) (t : rk_AV) (c : Int) : List (Nat × Nat × Nat × Int) := if rk_exact t c then [(0, n, s, c)] else []
/-- the checker's: what comes, and facts on it -/
def rk_op (ins : Instr) (fc : List (Nat × Nat × Nat × Int)) (n sx sy : Nat) (tx ty : rk_AV) : Option (rk_AV × List (Nat × Nat × Nat × Int)) :=
  if rk_isI tx && rk_isI ty then (match ins with
    | .iadd => some (rk_add tx ty, (3, n, sx, (sy : Int)) :: match rk_cst ty with
      | some c => rk_lin n sx tx c
      | none => match rk_cst tx with
        | some c => rk_lin n sy ty c
        | none => [])
    | .isub => some (rk_sub fc sx sy tx ty, match rk_cst ty with
      | some c => rk_lin n sx tx (-c)
      | none => [])
    | .imul => some (rk_mul tx ty, [])
    | .idiv => (match rk_dm tx ty with
      | some (a, b, c) => some ((0, a / c, b / c), [])
      | none => if rk_nz ty then some (rk_full, []) else none)
    | .irem => (match rk_dm tx ty with
      | some (a, b, c) => some (if a / c = b / c then (0, a % c, b % c) else (0, 0, c - 1), [(2, n, sx, c)])
      | none => if rk_nz ty then some (rk_full, []) else none)
    | .iand => some (rk_and tx ty, [])
    | .ior => some (rk_full, [])
    | .ishl => some (rk_full, [])
    | .ishr => some (rk_full, [])
    | .iushr => some (if rk_cst ty = some 8 then (0, 0, 16777215) else rk_full, [])
    | _ => none) else none
theorem rk_lin_ok {G : Nat → Option Nat} {X : Int} {r : Nat → Value} {n s : Nat} {t : rk_AV} {c : Int} {x z : Int32} (hX : X + 100000000 ≤ 2147483647) (hv : rk_has G X t (.int x)) (es : r s = .int x) (en : r n = .int z) (hz : -2147483648 ≤ x.toInt + c → x.toInt + c ≤ 2147483647 → z.toInt = x.toInt + c) : ∀ q ∈ rk_lin n s t c, rk_fact r q := by
  intro q hq
  unfold rk_lin at hq
  split at hq
  · rename_i he
    rw [List.mem_singleton] at hq
    subst hq
    have := rk_exact_ok hX he hv
    simp only [rk_fact]
    rw [es, en]
    exact hz this.1 this.2
  · cases hq
theorem rk_op_ok {G : Nat → Option Nat} {X : Int} {r : Nat → Value} {ins : Instr} {fc fs : List (Nat × Nat × Nat × Int)} {n sx sy : Nat} {tx ty t : rk_AV} (hX : X + 100000000 ≤ 2147483647) (hf : ∀ q ∈ fc, rk_fact r q) (h : rk_op ins fc n sx sy tx ty = some (t, fs)) (h1 : rk_has G X tx (r sx)) (h2 : rk_has G X ty (r sy)) :
    ∃ x y z : Int32, r sx = .int x ∧ r sy = .int y ∧ rk_mop ins x y = some z ∧ rk_has G X t (.int z) ∧ ∀ r' : Nat → Value, r' n = .int z → r' sx = .int x → r' sy = .int y → ∀ q ∈ fs, rk_fact r' q := by
  unfold rk_op at h
  split at h
  · rename_i hi
    simp only [Bool.and_eq_true] at hi
    obtain ⟨x, ex⟩ := rk_isI_ok hi.1 h1
    obtain ⟨y, ey⟩ := rk_isI_ok hi.2 h2
    refine ⟨x, y, ?_⟩
    rw [ex] at h1
    rw [ey] at h2
    cases ins with
    | iadd =>
      simp only [Option.some.injEq, Prod.mk.injEq] at h
      obtain ⟨rfl, rfl⟩ := h
      refine ⟨x + y, ex, ey, rfl, rk_add_ok hX h1 h2, fun r' e0 e1 e2 => List.forall_mem_cons.mpr ⟨⟨x, y, e1, by rw [Int.toNat_natCast]; exact e2, e0⟩, ?_⟩⟩
      split
      · rename_i c hc
        have hy := rk_cst_ok hc h2
        exact rk_lin_ok hX h1 e1 e0 (fun a b => by rw [rk_add_e] <;> omega)
      · split
        · rename_i c hc
          have hy := rk_cst_ok hc h1
          exact rk_lin_ok hX h2 e2 e0 (fun a b => by rw [rk_add_e] <;> omega)
        · intro q hq; cases hq
    | isub =>
      simp only [Option.some.injEq, Prod.mk.injEq] at h
      obtain ⟨rfl, rfl⟩ := h
      refine ⟨x - y, ex, ey, rfl, rk_sub_ok hf ex ey h1 h2, fun r' e0 e1 e2 => ?_⟩
      split
      · rename_i c hc
        have hy := rk_cst_ok hc h2
        exact rk_lin_ok hX h1 e1 e0 (fun a b => by rw [rk_sub_e] <;> omega)
      · intro q hq; cases hq
    | imul =>
      simp only [Option.some.injEq, Prod.mk.injEq] at h
      obtain ⟨rfl, rfl⟩ := h
      exact ⟨x * y, ex, ey, rfl, rk_mul_ok h1 h2, fun _ _ _ _ q hq => by cases hq⟩
    | idiv =>
      simp only at h
      split at h
      · rename_i a b c hd
        simp only [Option.some.injEq, Prod.mk.injEq] at h
        obtain ⟨rfl, rfl⟩ := h
        obtain ⟨g1, g2, g3, g4, g5⟩ := rk_dm_ok hd h1 h2
        have hy0 : ¬ y = 0 := fun h0 => by
          subst h0
          have : (0 : Int32).toInt = 0 := rfl
          omega
        refine ⟨x / y, ex, ey, by simp only [rk_mop, if_neg hy0], ⟨_, rfl, ?_, ?_⟩, fun _ _ _ _ q hq => by cases hq⟩
        · rw [rk_div_e (by omega) (by omega), g5]
          exact Int.ediv_le_ediv g2 g3
        · rw [rk_div_e (by omega) (by omega), g5]
          exact Int.ediv_le_ediv g2 g4
      · split at h
        · rename_i hn
          simp only [Option.some.injEq, Prod.mk.injEq] at h
          obtain ⟨rfl, rfl⟩ := h
          exact ⟨x / y, ex, ey, by simp only [rk_mop, if_neg (rk_nz_ok hn h2)], rk_full_ok _, fun _ _ _ _ q hq => by cases hq⟩
        · cases h
    | irem =>
      simp only at h
      split at h
      · rename_i a b c hd
        simp only [Option.some.injEq, Prod.mk.injEq] at h
        obtain ⟨rfl, rfl⟩ := h
        obtain ⟨g1, g2, g3, g4, g5⟩ := rk_dm_ok hd h1 h2
        have hy0 : ¬ y = 0 := fun h0 => by
          subst h0
          have : (0 : Int32).toInt = 0 := rfl
          omega
        have hz : (x - x / y * y).toInt = x.toInt % c := by rw [rk_rem_e (by omega) (by omega), g5]
        refine ⟨x - x / y * y, ex, ey, by simp only [rk_mop, if_neg hy0], ?_, fun r' e0 e1 e2 q hq => ?_⟩
        · have k1 := Int.emod_nonneg x.toInt (by omega : c ≠ 0)
          have k2 := Int.emod_lt_of_pos x.toInt g2
          split
          · rename_i hab
            have q1 := Int.ediv_le_ediv g2 g3
            have q2 := Int.ediv_le_ediv g2 g4
            have e1 := Int.mul_ediv_add_emod x.toInt c
            have e2 := Int.mul_ediv_add_emod a c
            have e3 := Int.mul_ediv_add_emod b c
            have e4 : x.toInt / c = a / c := by omega
            have e5 : b / c = a / c := by omega
            rw [e4] at e1
            rw [e5] at e3
            refine ⟨_, rfl, ?_, ?_⟩ <;> rw [hz] <;> omega
          · refine ⟨_, rfl, ?_, ?_⟩ <;> rw [hz] <;> omega
        · rw [List.mem_singleton] at hq
          subst hq
          simp only [rk_fact]
          rw [e0, e1]
          exact hz
      · split at h
        · rename_i hn
          simp only [Option.some.injEq, Prod.mk.injEq] at h
          obtain ⟨rfl, rfl⟩ := h
          exact ⟨x - x / y * y, ex, ey, by simp only [rk_mop, if_neg (rk_nz_ok hn h2)], rk_full_ok _, fun _ _ _ _ q hq => by cases hq⟩
        · cases h
    | iand =>
      simp only [Option.some.injEq, Prod.mk.injEq] at h
      obtain ⟨rfl, rfl⟩ := h
      exact ⟨x &&& y, ex, ey, rfl, rk_and_ok h1 h2, fun _ _ _ _ q hq => by cases hq⟩
    | ior =>
      simp only [Option.some.injEq, Prod.mk.injEq] at h
      obtain ⟨rfl, rfl⟩ := h
      exact ⟨x ||| y, ex, ey, rfl, rk_full_ok _, fun _ _ _ _ q hq => by cases hq⟩
    | ishl =>
      simp only [Option.some.injEq, Prod.mk.injEq] at h
      obtain ⟨rfl, rfl⟩ := h
      exact ⟨_, ex, ey, rfl, rk_full_ok _, fun _ _ _ _ q hq => by cases hq⟩
    | ishr =>
      simp only [Option.some.injEq, Prod.mk.injEq] at h
      obtain ⟨rfl, rfl⟩ := h
      exact ⟨_, ex, ey, rfl, rk_full_ok _, fun _ _ _ _ q hq => by cases hq⟩
    | iushr =>
      simp only [Option.some.injEq, Prod.mk.injEq] at h
      obtain ⟨rfl, rfl⟩ := h
      refine ⟨_, ex, ey, rfl, ?_, fun _ _ _ _ q hq => by cases hq⟩
      split
      · rename_i hc
        have hy := rk_cst_ok hc h2
        have : y = 8 := by
          apply Int32.toInt_inj.mp
          rw [hy]
          rfl
        subst this
        exact ⟨_, rfl, rk_ushr8 x⟩
      · exact rk_full_ok _
    | _ => simp at h
  · cases h
end
section
/-! branches: what is known behind a comparison -/
def rk_rel (c : Nat) (x y : Int) : Prop := match c with
  | 0 => x = y
  | 1 => ¬ x = y
  | 2 => x < y
  | 3 => y ≤ x
  | 4 => y < x
  | _ => x ≤ y
def rk_iI (c : Nat) (a b d e : Int) : (Int × Int) × (Int × Int) := match c with
  | 0 => ((max a d, min b e), (max a d, min b e))
  | 1 => if d = e then ((if a = d then a + 1 else a, if b = d then b - 1 else b), (d, e)) else if a = b then ((a, b), (if d = a then d + 1 else d, if e = a then e - 1 else e)) else ((a, b), (d, e))
  | 2 => ((a, min b (e - 1)), (max d (a + 1), e))
  | 3 => ((max a d, b), (d, min e b))
  | 4 => ((max a (d + 1), b), (d, min e (b - 1)))
  | _ => ((a, min b e), (max d a, e))
theorem rk_iI_ok {c : Nat} {a b d e x y : Int} (h : rk_rel c x y) (h1 : a ≤ x) (h2 : x ≤ b) (h3 : d ≤ y) (h4 : y ≤ e) : (rk_iI c a b d e).1.1 ≤ x ∧ x ≤ (rk_iI c a b d e).1.2 ∧ (rk_iI c a b d e).2.1 ≤ y ∧ y ≤ (rk_iI c a b d e).2.2 := by
  rcases c with _ | _ | _ | _ | _ | c
  · simp only [rk_rel] at h; simp only [rk_iI]; omega
  · simp only [rk_rel] at h
    simp only [rk_iI]
    split
    · dsimp only
      refine ⟨?_, ?_, h3, h4⟩ <;> split <;> omega
    · split
      · dsimp only
        refine ⟨h1, h2, ?_, ?_⟩ <;> split <;> omega
      · exact ⟨h1, h2, h3, h4⟩
  · simp only [rk_rel] at h; simp only [rk_iI]; omega
  · simp only [rk_rel] at h; simp only [rk_iI]; omega
  · simp only [rk_rel] at h; simp only [rk_iI]; omega
  · simp only [rk_rel] at h; simp only [rk_iI]; omega
def rk_wb (t : rk_AV) (a b : Int) : rk_AV := match t with
  | (0, _, _) => (0, a, b)
  | (1, u) => if b ≤ 1000 then (0, a, b) else (1, u)
  | (n + 2, u) => (n + 2, u)
theorem rk_wb_ok {G : Nat → Option Nat} {X : Int} {t : rk_AV} {x : Int32} {a b : Int} (h : rk_has G X t (.int x)) (h1 : a ≤ x.toInt) (h2 : x.toInt ≤ b) : rk_has G X (rk_wb t a b) (.int x) := by
  obtain ⟨n, u⟩ := t
  rcases n with _ | _ | n
  · exact ⟨x, rfl, h1, h2⟩
  · simp only [rk_wb]
    split
    · exact ⟨x, rfl, h1, h2⟩
    · exact h
  · exact h
def rk_df (y : Nat) : List (Nat × Nat × Nat × Int) → Option (Nat × Int)
  | [] => none
  | q :: l => if Nat.beq q.1 0 && Nat.beq q.2.1 y then some (q.2.2.1, q.2.2.2) else rk_df y l
theorem rk_df_ok {r : Nat → Value} {y x : Nat} {c : Int} : ∀ fc : List (Nat × Nat × Nat × Int), (∀ q ∈ fc, rk_fact r q) → rk_df y fc = some (x, c) → rk_toI (r y) = rk_toI (r x) + c
  | [], _, h => by cases h
  | q :: l, hl, h => by
    unfold rk_df at h
    split at h
    · rename_i hc
      have hq := hl q List.mem_cons_self
      simp only [Bool.and_eq_true, Nat.beq_eq] at hc
      obtain ⟨n, a, b, d⟩ := q
      dsimp only at hc h
      obtain ⟨rfl, rfl⟩ := hc
      cases h
      exact hq
    · exact rk_df_ok l (fun p hp => hl p (List.mem_cons_of_mem _ hp)) h
/-- what is known of y is known of x, y = x + c -/
def rk_prop (fc : List (Nat × Nat × Nat × Int)) (y : Nat) (en : List rk_AV) : List rk_AV := match en[y]? with
  | some (0, a, b) => (match rk_df y fc with
    | none => en
    | some (x, c) => match en[x]? with
      | some (0, p, q) => en.set x (0, max p (a - c), min q (b - c))
      | _ => en)
  | _ => en
def rk_cf (c sx sy : Nat) : List (Nat × Nat × Nat × Int) := match c with
  | 2 => [(1, sx, sy, 0)]
  | 4 => [(1, sy, sx, 0)]
  | _ => []
theorem rk_cf_ok {r : Nat → Value} {c sx sy : Nat} (h : rk_rel c (rk_toI (r sx)) (rk_toI (r sy))) : ∀ q ∈ rk_cf c sx sy, rk_fact r q := by
  intro q hq
  rcases c with _ | _ | _ | _ | _ | c
  · cases hq
  · cases hq
  · simp only [rk_cf, List.mem_singleton] at hq; subst hq; exact h
  · cases hq
  · simp only [rk_cf, List.mem_singleton] at hq; subst hq; exact h
  · cases hq
/-- x and y compared; none: it can't be said; []: it can't be -/
def rk_brn (S : rk_St) (c sx sy : Nat) : Option (List rk_St) := match S with
  | (lo, sk, en, kn, fc, co) => match en[sx]? with
    | none => none
    | some tx => match en[sy]? with
      | none => none
      | some ty => match rk_iv tx with
        | none => none
        | some (a, b) => match rk_iv ty with
          | none => none
          | some (d, e) => match rk_iI c a b d e with
            | ((a', b'), (d', e')) => if b' < a' ∨ e' < d' then some [] else some [(lo, sk, rk_prop fc sy (rk_prop fc sx ((en.set sx (rk_wb tx a' b')).set sy (rk_wb ty d' e'))), kn, rk_cf c sx sy ++ fc, co)]
/-- x compared with 0 -/
def rk_br0 (S : rk_St) (c sx : Nat) : Option (List rk_St) := match S with
  | (lo, sk, en, kn, fc, co) => match en[sx]? with
    | none => none
    | some tx => match rk_iv tx with
      | none => none
      | some (a, b) => match rk_iI c a b 0 0 with
        | ((a', b'), (d', e')) => if b' < a' ∨ e' < d' then some [] else some [(lo, sk, rk_prop fc sx (en.set sx (rk_wb tx a' b')), kn, fc, co)]
section RKB
variable {F : rk_Fx} {nE : Nat} {r0 r : Nat → Value} {lo : List (Nat × Nat)} {sk : List Nat} {en : List rk_AV} {kn : List (Nat × Nat × Nat)} {fc : List (Nat × Nat × Nat × Int)} {co : Int} {f : Nat → va_E} {H : Heap} {locs : List Loc} {ls : Array Slot} {st : List Value}
theorem rk_addfs : ∀ (fs : List (Nat × Nat × Nat × Int)), rk_on F nE r0 r (lo, sk, en, kn, fc, co) f H locs ls st → (∀ q ∈ fs, rk_fact r q) → rk_on F nE r0 r (lo, sk, en, kn, fs ++ fc, co) f H locs ls st
  | [], h, _ => h
  | q :: fs, h, hq => rk_addf (rk_addfs fs h (fun p hp => hq p (List.mem_cons_of_mem _ hp))) (hq q List.mem_cons_self)
theorem rk_prop_ok (y : Nat) (h : rk_on F nE r0 r (lo, sk, en, kn, fc, co) f H locs ls st) : rk_on F nE r0 r (lo, sk, rk_prop fc y en, kn, fc, co) f H locs ls st := by
  unfold rk_prop
  split
  · rename_i a b hy
    split
    · exact h
    · rename_i x c hd
      split
      · rename_i p q hx
        have e1 := rk_df_ok fc h.2.2.1 hd
        obtain ⟨u, eu, u1, u2⟩ := rk_val h hy
        obtain ⟨v, ev, v1, v2⟩ := rk_val h hx
        rw [eu, ev] at e1
        simp only [rk_toI] at e1
        refine rk_ref h ?_
        rw [ev]
        exact ⟨v, rfl, by omega, by omega⟩
      · exact h
  · exact h
theorem rk_brn_ok {S : rk_St} {c sx sy : Nat} {l : List rk_St} (hS : rk_on F nE r0 r S f H locs ls st) (h : rk_brn S c sx sy = some l) (hr : rk_rel c (rk_toI (r sx)) (rk_toI (r sy))) : ∃ S' ∈ l, rk_on F nE r0 r S' f H locs ls st := by
  obtain ⟨lo, sk, en, kn, fc, co⟩ := S
  simp only [rk_brn] at h
  split at h
  · cases h
  · rename_i tx htx
    split at h
    · cases h
    · rename_i ty hty
      split at h
      · cases h
      · rename_i a b hab
        split at h
        · cases h
        · rename_i d e hde
          have hx := rk_val hS htx
          have hy := rk_val hS hty
          obtain ⟨x, ex, p1, p2⟩ := rk_iv_ok hab hx
          obtain ⟨y, ey, q1, q2⟩ := rk_iv_ok hde hy
          have hr2 := hr
          rw [ex, ey] at hr2
          have hI := rk_iI_ok (c := c) (x := x.toInt) (y := y.toInt) hr2 p1 p2 q1 q2
          generalize hz : rk_iI c a b d e = zz at h hI
          obtain ⟨⟨a', b'⟩, ⟨d', e'⟩⟩ := zz
          dsimp only at h hI
          split at h
          · omega
          · cases h
            refine ⟨_, List.mem_singleton.mpr rfl, ?_⟩
            refine rk_addfs _ (rk_prop_ok sy (rk_prop_ok sx (rk_ref (rk_ref hS ?_) ?_))) (rk_cf_ok hr)
            · rw [ex]; rw [ex] at hx; exact rk_wb_ok hx hI.1 hI.2.1
            · rw [ey]; rw [ey] at hy; exact rk_wb_ok hy hI.2.2.1 hI.2.2.2
theorem rk_br0_ok {S : rk_St} {c sx : Nat} {l : List rk_St} (hS : rk_on F nE r0 r S f H locs ls st) (h : rk_br0 S c sx = some l) (hr : rk_rel c (rk_toI (r sx)) 0) : ∃ S' ∈ l, rk_on F nE r0 r S' f H locs ls st := by
  obtain ⟨lo, sk, en, kn, fc, co⟩ := S
  simp only [rk_br0] at h
  split at h
  · cases h
  · rename_i tx htx
    split at h
    · cases h
    · rename_i a b hab
      have hx := rk_val hS htx
      obtain ⟨x, ex, p1, p2⟩ := rk_iv_ok hab hx
      have hr2 := hr
      rw [ex] at hr2
      have hI := rk_iI_ok (c := c) (x := x.toInt) (y := 0) (d := 0) (e := 0) hr2 p1 p2 (Int.le_refl 0) (Int.le_refl 0)
      generalize hz : rk_iI c a b 0 0 = zz at h hI
      obtain ⟨⟨a', b'⟩, ⟨d', e'⟩⟩ := zz
      dsimp only at h hI
      split at h
      · omega
      · cases h
        refine ⟨_, List.mem_singleton.mpr rfl, rk_prop_ok sx (rk_ref hS ?_)⟩
        rw [ex]; rw [ex] at hx; exact rk_wb_ok hx hI.1 hI.2.1
end RKB
def rk_ct (c : ClassFile.Cond) : Nat := match c with
  | .eq => 0
  | .ne => 1
  | .lt => 2
  | .ge => 3
  | .gt => 4
  | .le => 5
def rk_cn (c : ClassFile.Cond) : Nat := match c with
  | .eq => 1
  | .ne => 0
  | .lt => 3
  | .ge => 2
  | .gt => 5
  | .le => 4
section RKW
variable {p : Program} {l : Launch} {e : Env} {R : Room} {s : State} {m : MethodId} {args : Array Value} {below : List Frame} {meth : Method} {c : Code} {H : Heap} {locs : List Loc} {cells slots : Nat} {Q : State → Prop} {cc : ByteArray} {pc : Nat} {ls : Array Slot} {rest : List Value}
theorem rk_icmp (hexec : p.tables.exec = Jvm.exec) (hb : c.code = cc) {x y : Int32} {cd : ClassFile.Cond} {off : Int} {tgt : Nat} (hdg : decode cc pc = .ok (.if_icmp cd off, 3)) (ht : (pc : Int) + off = (tgt : Int))
    (kt : rk_rel (rk_ct cd) x.toInt y.toInt → W p l e R s m args below meth c H locs cells slots Q (F0 m tgt ls rest)) (kf : rk_rel (rk_cn cd) x.toInt y.toInt → W p l e R s m args below meth c H locs cells slots Q (F0 m (pc + 3) ls rest)) : W p l e R s m args below meth c H locs cells slots Q (F0 m pc ls (.int y :: .int x :: rest)) := by
  cases cd with
  | eq => exact lv_icmp_eq hexec hb hdg ht (fun h => kt (by rw [h]; rfl)) (fun h => kf (fun h2 => h (Int32.toInt_inj.mp h2)))
  | ne => exact lv_icmp_ne hexec hb hdg ht (fun h => kt (fun h2 => h (Int32.toInt_inj.mp h2))) (fun h => kf (by
      show x.toInt = y.toInt
      rw [h]))
  | lt => exact lv_icmp_lt hexec hb hdg ht (fun h => kt (Int32.lt_iff_toInt_lt.mp h)) (fun h => kf (by
      show y.toInt ≤ x.toInt
      rw [Int32.lt_iff_toInt_lt] at h
      omega))
  | ge => exact lv_icmp_ge hexec hb hdg ht (fun h => kt (Int32.le_iff_toInt_le.mp h)) (fun h => kf (by
      show x.toInt < y.toInt
      rw [Int32.le_iff_toInt_le] at h
      omega))
  | gt => exact lv_icmp_gt hexec hb hdg ht (fun h => kt (Int32.lt_iff_toInt_lt.mp h)) (fun h => kf (by
      show x.toInt ≤ y.toInt
      rw [Int32.lt_iff_toInt_lt] at h
      omega))
  | le => exact lv_icmp_le hexec hb hdg ht (fun h => kt (Int32.le_iff_toInt_le.mp h)) (fun h => kf (by
      show y.toInt < x.toInt
      rw [Int32.le_iff_toInt_le] at h
      omega))
theorem rk_if0 (hexec : p.tables.exec = Jvm.exec) (hb : c.code = cc) {x : Int32} {cd : ClassFile.Cond} {off : Int} {tgt : Nat} (hdg : decode cc pc = .ok (.ifCond cd off, 3)) (ht : (pc : Int) + off = (tgt : Int))
    (kt : rk_rel (rk_ct cd) x.toInt 0 → W p l e R s m args below meth c H locs cells slots Q (F0 m tgt ls rest)) (kf : rk_rel (rk_cn cd) x.toInt 0 → W p l e R s m args below meth c H locs cells slots Q (F0 m (pc + 3) ls rest)) : W p l e R s m args below meth c H locs cells slots Q (F0 m pc ls (.int x :: rest)) := by
  have h0 : (0 : Int32).toInt = 0 := rfl
  cases cd with
  | eq => exact lv_if_eq hexec hb hdg ht (fun h => kt (by rw [h]; rfl)) (fun h => kf (fun h2 => h (Int32.toInt_inj.mp (h2.trans h0.symm))))
  | ne => exact lv_if_ne hexec hb hdg ht (fun h => kt (fun h2 => h (Int32.toInt_inj.mp (h2.trans h0.symm)))) (fun h => kf (by
      show x.toInt = 0
      rw [h]; rfl))
  | lt => exact lv_if_lt hexec hb hdg ht (fun h => kt (by have := Int32.lt_iff_toInt_lt.mp h; rw [h0] at this; exact this)) (fun h => kf (by
      show 0 ≤ x.toInt
      rw [Int32.lt_iff_toInt_lt, h0] at h
      omega))
  | ge => exact lv_if_ge hexec hb hdg ht (fun h => kt (by have := Int32.le_iff_toInt_le.mp h; rw [h0] at this; exact this)) (fun h => kf (by
      show x.toInt < 0
      rw [Int32.le_iff_toInt_le, h0] at h
      omega))
  | gt => exact lv_if_gt hexec hb hdg ht (fun h => kt (by have := Int32.lt_iff_toInt_lt.mp h; rw [h0] at this; exact this)) (fun h => kf (by
      show x.toInt ≤ 0
      rw [Int32.lt_iff_toInt_lt, h0] at h
      omega))
  | le => exact lv_if_le hexec hb hdg ht (fun h => kt (by have := Int32.le_iff_toInt_le.mp h; rw [h0] at this; exact this)) (fun h => kf (by
      show 0 < x.toInt
      rw [Int32.le_iff_toInt_le, h0] at h
      omega))
theorem rk_arW (hexec : p.tables.exec = Jvm.exec) (hb : c.code = cc) {x y z : Int32} {ins : Instr} (hdg : decode cc pc = .ok (ins, 1)) (hz : rk_mop ins x y = some z)
    (k : W p l e R s m args below meth c H locs cells slots Q (F0 m (pc + 1) ls (.int z :: rest))) : W p l e R s m args below meth c H locs cells slots Q (F0 m pc ls (.int y :: .int x :: rest)) := by
  cases ins <;> first
    | (simp [rk_mop] at hz; done)
    | (simp only [rk_mop, Option.some.injEq] at hz; subst hz; first | exact lv_iadd hexec hb hdg k | exact lv_isub hexec hb hdg k | exact lv_imul hexec hb hdg k | exact lv_iand hexec hb hdg k | exact lv_ior hexec hb hdg k | exact lv_ishl hexec hb hdg k | exact lv_ishr hexec hb hdg k | exact lv_iushr hexec hb hdg rfl k)
    | (simp only [rk_mop] at hz; split at hz; cases hz; rename_i hne; cases hz; first | exact lv_idiv hexec hb hdg hne k | exact lv_irem hexec hb hdg hne k)
end RKW
end
section
/-! instructions that touch neither cells nor methods -/
def rk_lk : List (Nat × Nat) → Nat → Option Nat
  | [], _ => none
  | q :: l, i => if Nat.beq q.1 i then some q.2 else rk_lk l i
theorem rk_lk_ok {i y : Nat} : ∀ lo : List (Nat × Nat), rk_lk lo i = some y → (i, y) ∈ lo
  | [], h => by cases h
  | q :: l, h => by
    unfold rk_lk at h
    split at h
    · rename_i hq
      rw [Nat.beq_eq] at hq
      cases h
      subst hq
      exact List.mem_cons_self
    · exact List.mem_cons_of_mem _ (rk_lk_ok l h)
def rk_up (lo : List (Nat × Nat)) (i y : Nat) : List (Nat × Nat) := (i, y) :: lo.filter (fun q => !(Nat.beq q.1 i))
def rk_isR (t : rk_AV) : Bool := Nat.beq t.1 2 || Nat.beq t.1 3
theorem rk_isR_ok {G : Nat → Option Nat} {X : Int} {t : rk_AV} {v : Value} (h : rk_isR t = true) (hv : rk_has G X t v) : v = .null ∨ ∃ a : Nat, v = .ref a := by
  obtain ⟨n, a, b⟩ := t
  rcases n with _ | _ | _ | _ | n
  · simp [rk_isR] at h
  · simp [rk_isR] at h
  · obtain ⟨x, rfl, -⟩ := hv; exact Or.inr ⟨_, rfl⟩
  · rcases hv with rfl | ⟨x, rfl, -⟩
    · exact Or.inl rfl
    · exact Or.inr ⟨_, rfl⟩
  · simp [rk_isR] at h
abbrev rk_Sc : Type := Option (List (Nat × rk_St))
def rk_tgt (pc : Nat) (off : Int) : Nat := ((pc : Int) + off).toNat
def rk_tok (pc : Nat) (off : Int) : Bool := decide (0 ≤ (pc : Int) + off)
theorem rk_tgt_ok {pc : Nat} {off : Int} (h : rk_tok pc off = true) : (pc : Int) + off = (rk_tgt pc off : Int) := by
  simp only [rk_tok, decide_eq_true_eq] at h
  unfold rk_tgt
  omega
def rk_mk (nE pc : Nat) (S : rk_St) (t : rk_AV) : rk_Sc := match S with
  | (lo, sk, en, kn, fc, co) => if rk_wf nE S then some [(pc, (lo, en.length :: sk, en ++ [t], kn, fc, co))] else none
def rk_ld (pc i : Nat) (S : rk_St) (ok : rk_AV → Bool) : rk_Sc := match S with
  | (lo, sk, en, kn, fc, co) => match rk_lk lo i with
    | none => none
    | some y => match en[y]? with
      | none => none
      | some t => if ok t then some [(pc, (lo, y :: sk, en, kn, fc, co))] else none
def rk_sto (nE nL pc i : Nat) (S : rk_St) (ok : rk_AV → Bool) : rk_Sc := match S with
  | (lo, sk, en, kn, fc, co) => match sk with
    | [] => none
    | y :: sk => match en[y]? with
      | none => none
      | some t => if ok t && (Nat.blt i nL && rk_wf nE S) then some [(pc, (rk_up lo i y, sk, en, kn, fc, co))] else none
def rk_inc (nE nL pc i : Nat) (c : Int) (S : rk_St) : rk_Sc := match S with
  | (lo, sk, en, kn, fc, co) => match rk_lk lo i with
    | none => none
    | some y => match en[y]? with
      | none => none
      | some t => if rk_isI t && (Nat.blt i nL && (rk_wf nE S && (decide (-32768 ≤ c) && decide (c ≤ 32767)))) then some [(pc, (rk_up lo i en.length, sk, en ++ [rk_add t (0, c, c)], kn, rk_lin en.length y t c ++ fc, co))] else none
/-- the sum is there already -/
def rk_cse (ins : Instr) (x y : Nat) : List (Nat × Nat × Nat × Int) → Option Nat
  | [] => none
  | q :: l => match ins with
    | .iadd => if Nat.beq q.1 3 && (Nat.beq q.2.2.1 x && decide (q.2.2.2 = (y : Int))) then some q.2.1 else rk_cse ins x y l
    | _ => none
def rk_ari (nE pc : Nat) (ins : Instr) (S : rk_St) : rk_Sc := match S with
  | (lo, sk, en, kn, fc, co) => match sk with
    | y :: x :: sk => (match en[x]? with
      | none => none
      | some tx => match en[y]? with
        | none => none
        | some ty => match rk_cse ins x y fc with
          | some z => some [(pc, (lo, z :: sk, en, kn, fc, co))]
          | none => match rk_op ins fc en.length x y tx ty with
            | none => none
            | some (t, fs) => if rk_wf nE S then some [(pc, (lo, en.length :: sk, en ++ [t], kn, fs ++ fc, co))] else none)
    | _ => none
def rk_at (pc : Nat) (l : List rk_St) : List (Nat × rk_St) := l.map (fun S => (pc, S))
def rk_two (pt pf : Nat) (a b : Option (List rk_St)) : rk_Sc := match a with
  | none => none
  | some la => match b with
    | none => none
    | some lb => some (rk_at pt la ++ rk_at pf lb)
def rk_cmpS (pc : Nat) (cd : ClassFile.Cond) (off : Int) (S : rk_St) : rk_Sc := match S with
  | (lo, sk, en, kn, fc, co) => match sk with
    | y :: x :: sk => if rk_tok pc off then rk_two (rk_tgt pc off) (pc + 3) (rk_brn (lo, sk, en, kn, fc, co) (rk_ct cd) x y) (rk_brn (lo, sk, en, kn, fc, co) (rk_cn cd) x y) else none
    | _ => none
def rk_if0S (pc : Nat) (cd : ClassFile.Cond) (off : Int) (S : rk_St) : rk_Sc := match S with
  | (lo, sk, en, kn, fc, co) => match sk with
    | x :: sk => if rk_tok pc off then rk_two (rk_tgt pc off) (pc + 3) (rk_br0 (lo, sk, en, kn, fc, co) (rk_ct cd) x) (rk_br0 (lo, sk, en, kn, fc, co) (rk_cn cd) x) else none
    | _ => none
/-- null or not: tn behind null, tr behind a cell -/
def rk_nul (tn tr : Nat) (S : rk_St) : rk_Sc := match S with
  | (lo, sk, en, kn, fc, co) => match sk with
    | x :: sk => (match en[x]? with
      | none => none
      | some t => match t with
        | (2, _, _) => some [(tr, (lo, sk, en, kn, fc, co))]
        | (3, k, _) => some [(tn, (lo, sk, en, kn, fc, co)), (tr, (lo, sk, en.set x (2, k, 0), kn, fc, co))]
        | _ => none)
    | _ => none
/-- a table's places, one behind the other -/
def rk_tc (pc x : Nat) (a b : Int) (S : rk_St) : Int → List Int → List (Nat × rk_St)
  | _, [] => []
  | k, o :: l => if a ≤ k ∧ k ≤ b then (rk_tgt pc o, (S.1, S.2.1, S.2.2.1.set x (0, k, k), S.2.2.2)) :: rk_tc pc x a b S (k + 1) l else rk_tc pc x a b S (k + 1) l
def rk_tsw (pc : Nat) (d lo hi : Int) (offs : Array Int) (S : rk_St) : rk_Sc := match S with
  | (l0, sk, en, kn, fc, co) => match sk with
    | x :: sk => (match en[x]? with
      | none => none
      | some t => match rk_iv t with
        | none => none
        | some (a, b) => if rk_tok pc d && (offs.toList.all (rk_tok pc) && decide ((offs.toList.length : Int) = hi - lo + 1)) then
            some ((if lo ≤ a ∧ b ≤ hi then [] else [(rk_tgt pc d, (l0, sk, en, kn, fc, co))]) ++ rk_tc pc x a b (l0, sk, en, kn, fc, co) lo offs.toList) else none)
    | _ => none
def rk_s1 (nE nL : Nat) (cs : Nat → Option Int32) (pc : Nat) (ins : Instr) (S : rk_St) : rk_Sc := match ins with
  | .iconst n => rk_mk nE (pc + 1) S (0, (Int32.ofInt n).toInt, (Int32.ofInt n).toInt)
  | .bipush n => rk_mk nE (pc + 2) S (0, (Int8.ofInt n).toInt32.toInt, (Int8.ofInt n).toInt32.toInt)
  | .sipush n => rk_mk nE (pc + 3) S (0, (Int16.ofInt n).toInt32.toInt, (Int16.ofInt n).toInt32.toInt)
  | .ldc i => (match cs i with
    | none => none
    | some v => rk_mk nE (pc + 2) S (0, v.toInt, v.toInt))
  | .ldc_w i => (match cs i with
    | none => none
    | some v => rk_mk nE (pc + 3) S (0, v.toInt, v.toInt))
  | .aconst_null => rk_mk nE (pc + 1) S (3, 4, 0)
  | .iload i => rk_ld (pc + 2) i S rk_isI
  | .iload_n i => rk_ld (pc + 1) i S rk_isI
  | .aload i => rk_ld (pc + 2) i S rk_isR
  | .aload_n i => rk_ld (pc + 1) i S rk_isR
  | .istore i => rk_sto nE nL (pc + 2) i S rk_isI
  | .istore_n i => rk_sto nE nL (pc + 1) i S rk_isI
  | .astore i => rk_sto nE nL (pc + 2) i S rk_isR
  | .astore_n i => rk_sto nE nL (pc + 1) i S rk_isR
  | .iinc i c => rk_inc nE nL (pc + 3) i c S
  | .iadd => rk_ari nE (pc + 1) .iadd S
  | .isub => rk_ari nE (pc + 1) .isub S
  | .imul => rk_ari nE (pc + 1) .imul S
  | .idiv => rk_ari nE (pc + 1) .idiv S
  | .irem => rk_ari nE (pc + 1) .irem S
  | .iand => rk_ari nE (pc + 1) .iand S
  | .ior => rk_ari nE (pc + 1) .ior S
  | .ishl => rk_ari nE (pc + 1) .ishl S
  | .ishr => rk_ari nE (pc + 1) .ishr S
  | .iushr => rk_ari nE (pc + 1) .iushr S
  | .pop => (match S with
    | (lo, sk, en, kn, fc, co) => match sk with
      | y :: sk => if (en[y]?).isSome then some [(pc + 1, (lo, sk, en, kn, fc, co))] else none
      | _ => none)
  | .dup => (match S with
    | (lo, sk, en, kn, fc, co) => match sk with
      | y :: sk => if (en[y]?).isSome then some [(pc + 1, (lo, y :: y :: sk, en, kn, fc, co))] else none
      | _ => none)
  | .dup2 => (match S with
    | (lo, sk, en, kn, fc, co) => match sk with
      | y :: x :: sk => if (en[y]?).isSome && (en[x]?).isSome then some [(pc + 1, (lo, y :: x :: y :: x :: sk, en, kn, fc, co))] else none
      | _ => none)
  | .goto o => if rk_tok pc o then some [(rk_tgt pc o, S)] else none
  | .if_icmp cd o => rk_cmpS pc cd o S
  | .ifCond cd o => rk_if0S pc cd o S
  | .ifnull o => if rk_tok pc o then rk_nul (rk_tgt pc o) (pc + 3) S else none
  | .ifnonnull o => if rk_tok pc o then rk_nul (pc + 3) (rk_tgt pc o) S else none
  | .tableswitch d lo hi offs => rk_tsw pc d lo hi offs S
  | _ => none
def rk_lenOk (ins : Instr) (len : Nat) : Bool := match ins with
  | .tableswitch _ _ _ _ => true
  | .lookupswitch _ _ => true
  | .iload _ => Nat.beq len 2
  | .aload _ => Nat.beq len 2
  | .istore _ => Nat.beq len 2
  | .astore _ => Nat.beq len 2
  | .bipush _ => Nat.beq len 2
  | .ldc _ => Nat.beq len 2
  | .newarray _ => Nat.beq len 2
  | .sipush _ => Nat.beq len 3
  | .ldc_w _ => Nat.beq len 3
  | .iinc _ _ => Nat.beq len 3
  | .if_icmp _ _ => Nat.beq len 3
  | .ifCond _ _ => Nat.beq len 3
  | .ifnull _ => Nat.beq len 3
  | .ifnonnull _ => Nat.beq len 3
  | .goto _ => Nat.beq len 3
  | .getfield _ => Nat.beq len 3
  | .putfield _ => Nat.beq len 3
  | .invokevirtual _ => Nat.beq len 3
  | .invokestatic _ => Nat.beq len 3
  | .invokespecial _ => Nat.beq len 3
  | .new _ => Nat.beq len 3
  | .anewarray _ => Nat.beq len 3
  | _ => Nat.beq len 1
end
section
section RKS
variable {p : Program} {l : Launch} {e : Env} {R : Room} {s : State} {m : MethodId} {args : Array Value} {below : List Frame} {meth : Method} {c : Code} {Q : State → Prop} {cc : ByteArray} {F : rk_Fx} {nE : Nat} {r0 : Nat → Value}
/-- from every state that the symbolic one covers, the machine comes to Q -/
def rk_G (p : Program) (l : Launch) (e : Env) (R : Room) (s : State) (m : MethodId) (args : Array Value) (below : List Frame) (meth : Method) (c : Code) (Q : State → Prop) (F : rk_Fx) (nE : Nat) (r0 : Nat → Value) (pc : Nat) (S : rk_St) : Prop :=
  ∀ (r : Nat → Value) (f : Nat → va_E) (H : Heap) (locs : List Loc) (ls : Array Slot) (st : List Value), rk_on F nE r0 r S f H locs ls st → W p l e R s m args below meth c H locs 0 0 Q (F0 m pc ls st)
theorem rk_mk_ok {pc : Nat} {S : rk_St} {t : rk_AV} {out : List (Nat × rk_St)} {r : Nat → Value} {f : Nat → va_E} {H : Heap} {locs : List Loc} {ls : Array Slot} {st : List Value} {v : Value} (h : rk_mk nE pc S t = some out) (hk : ∀ q ∈ out, rk_G p l e R s m args below meth c Q F nE r0 q.1 q.2) (hS : rk_on F nE r0 r S f H locs ls st) (hv : rk_has (rk_fG F) (rk_fX F + S.2.2.2.2.2) t v) : W p l e R s m args below meth c H locs 0 0 Q (F0 m pc ls (v :: st)) := by
  obtain ⟨lo, sk, en, kn, fc, co⟩ := S
  simp only [rk_mk] at h
  split at h
  · rename_i hw
    cases h
    obtain ⟨r', e0, e1, hS'⟩ := rk_fresh hS hw v
    have := rk_push en.length (rk_enter (t := t) hS' (by rw [e0]; exact hv))
    rw [e0] at this
    exact hk _ (List.mem_singleton.mpr rfl) r' f H locs ls _ this
  · cases h
theorem rk_lvs {ls : Array Slot} {nL : Nat} {l1 l2 : List (Nat × Value)} (h : lv_has ls nL l1) (hs : ∀ q ∈ l2, q ∈ l1) : lv_has ls nL l2 := ⟨h.1, h.2.1, fun q hq => h.2.2 q (hs q hq)⟩
theorem rk_get {S : rk_St} {r : Nat → Value} {f : Nat → va_E} {H : Heap} {locs : List Loc} {ls : Array Slot} {st : List Value} {i y : Nat} (hS : rk_on F nE r0 r S f H locs ls st) (h : rk_lk S.1 i = some y) : ls[i]? = some (.val (r y)) := by
  obtain ⟨lo, sk, en, kn, fc, co⟩ := S
  have h4 := hS.2.2.2.1
  exact h4.2.2 (i, r y) (List.mem_map.mpr ⟨(i, y), rk_lk_ok lo h, rfl⟩)
/-- behind a store -/
theorem rk_stored {lo : List (Nat × Nat)} {sk : List Nat} {en : List rk_AV} {kn : List (Nat × Nat × Nat)} {fc : List (Nat × Nat × Nat × Int)} {co : Int} {r : Nat → Value} {f : Nat → va_E} {H : Heap} {locs : List Loc} {ls ls' : Array Slot} {st : List Value} {i y : Nat} (hS : rk_on F nE r0 r (lo, sk, en, kn, fc, co) f H locs ls st) (hin : ∀ q ∈ lo, ∃ t, en[q.2]? = some t)
    (hl : lv_has ls' (rk_fn F) ((i, r y) :: (lo.map fun q => (q.1, r q.2)).filter (fun q => !(q.1 == i) && !(q.1 + 1 == i && q.2.category == 2)))) : rk_on F nE r0 r (rk_up lo i y, sk, en, kn, fc, co) f H locs ls' st := by
  obtain ⟨h1, h2, h3, h4, h⟩ := hS
  refine ⟨h1, h2, h3, rk_lvs hl ?_, h⟩
  intro q hq
  obtain ⟨z, hz, rfl⟩ := List.mem_map.mp hq
  rcases List.mem_cons.mp hz with rfl | hz
  · exact List.mem_cons_self
  · obtain ⟨hz1, hz2⟩ := List.mem_filter.mp hz
    refine List.mem_cons_of_mem _ (List.mem_filter.mpr ⟨List.mem_map.mpr ⟨z, hz1, rfl⟩, ?_⟩)
    obtain ⟨t, ht⟩ := hin z hz1
    have hc := rk_has_cat (h1 _ _ ht)
    have hne : ¬ z.1 = i := by
      intro h0
      rw [h0] at hz2
      simp at hz2
    dsimp only
    rw [hc]
    simp [hne]
theorem rk_wf_lo {S : rk_St} (h : rk_wf nE S = true) : ∀ q ∈ S.1, ∃ t, S.2.2.1[q.2]? = some t := by
  obtain ⟨lo, sk, en, kn, fc, co⟩ := S
  simp only [rk_wf, Bool.and_eq_true, List.all_eq_true, Nat.blt_eq, Nat.ble_eq] at h
  intro q hq
  exact ⟨_, List.getElem?_eq_getElem (h.2.1 q hq)⟩
theorem rk_at_mem {pc : Nat} {l : List rk_St} {S : rk_St} (h : S ∈ l) : (pc, S) ∈ rk_at pc l := List.mem_map.mpr ⟨S, h, rfl⟩
theorem rk_tc_mem {pc x : Nat} {a b : Int} {S : rk_St} : ∀ (l : List Int) (k n : Int) (o : Int), k ≤ n → l[(n - k).toNat]? = some o → a ≤ n → n ≤ b → (rk_tgt pc o, (S.1, S.2.1, S.2.2.1.set x (0, n, n), S.2.2.2)) ∈ rk_tc pc x a b S k l
  | [], k, n, o, h, ho, _, _ => by simp at ho
  | q :: l, k, n, o, h, ho, ha, hb => by
    unfold rk_tc
    by_cases hkn : k = n
    · subst hkn
      rw [if_pos ⟨ha, hb⟩]
      rw [Int.sub_self] at ho
      cases ho
      exact List.mem_cons_self
    · have e1 : (n - k).toNat = (n - (k + 1)).toNat + 1 := by omega
      rw [e1, List.getElem?_cons_succ] at ho
      have ih := rk_tc_mem (pc := pc) (x := x) (S := S) l (k + 1) n o (by omega) ho ha hb
      split
      · exact List.mem_cons_of_mem _ ih
      · exact ih
theorem rk_cse_ok {r : Nat → Value} {ins : Instr} {x y z : Nat} : ∀ fc : List (Nat × Nat × Nat × Int), (∀ q ∈ fc, rk_fact r q) → rk_cse ins x y fc = some z → ins = .iadd ∧ ∃ a b : Int32, r x = .int a ∧ r y = .int b ∧ r z = .int (a + b)
  | [], _, h => by cases h
  | q :: l, hl, h => by
    unfold rk_cse at h
    split at h
    · split at h
      · rename_i hc
        have hq := hl q List.mem_cons_self
        simp only [Bool.and_eq_true, Nat.beq_eq, decide_eq_true_eq] at hc
        obtain ⟨n, a, b, d⟩ := q
        dsimp only at hc h
        obtain ⟨rfl, rfl, rfl⟩ := hc
        cases h
        simp only [rk_fact] at hq
        rw [Int.toNat_natCast] at hq
        exact ⟨rfl, hq⟩
      · exact rk_cse_ok l (fun p hp => hl p (List.mem_cons_of_mem _ hp)) h
    · cases h
theorem rk_s1_ok (hx : p.tables.exec = Jvm.exec) (hb : c.code = cc) {own : String} (hown : s.vm.findClass own = some m.cls) {cs : Nat → Option Int32} (hcs : ∀ i v, cs i = some v → (Jvm.Cond.constant own i v).before args s = true) (hX : rk_fX F + 110000000 ≤ 2147483647)
    {pc len : Nat} {ins : Instr} {S : rk_St} {out : List (Nat × rk_St)} (hdg : decode cc pc = .ok (ins, len)) (hlen : rk_lenOk ins len = true) (h : rk_s1 nE (rk_fn F) cs pc ins S = some out) (hk : ∀ q ∈ out, rk_G p l e R s m args below meth c Q F nE r0 q.1 q.2) : rk_G p l e R s m args below meth c Q F nE r0 pc S := by
  intro r f H locs ls st hS
  have hXc : (rk_fX F + S.2.2.2.2.2) + 100000000 ≤ 2147483647 := by
    obtain ⟨lo, sk, en, kn, fc, co⟩ := S
    have := hS.2.2.2.2.2.2.1
    dsimp only
    omega
  have kload : ∀ (i n : Nat) (ok : rk_AV → Bool), rk_ld n i S ok = some out → ∃ (y : Nat) (t : rk_AV), ls[i]? = some (.val (r y)) ∧ ok t = true ∧ rk_has (rk_fG F) (rk_fX F + S.2.2.2.2.2) t (r y) ∧ W p l e R s m args below meth c H locs 0 0 Q (F0 m n ls (r y :: st)) := by
    intro i n ok h
    have hg := @rk_get F nE r0 S r f H locs ls st i
    obtain ⟨lo, sk, en, kn, fc, co⟩ := S
    simp only [rk_ld] at h
    split at h
    · cases h
    · rename_i y hy
      split at h
      · cases h
      · rename_i t ht
        split at h
        · rename_i hok
          cases h
          exact ⟨y, t, hg hS hy, hok, rk_val hS ht, hk _ (List.mem_singleton.mpr rfl) r f H locs ls _ (rk_push y hS)⟩
        · cases h
  have ksto : ∀ (i n : Nat) (ok : rk_AV → Bool), rk_sto nE (rk_fn F) n i S ok = some out → ∃ (y : Nat) (t : rk_AV) (st' : List Value) (lv : List (Nat × Value)), st = r y :: st' ∧ ok t = true ∧ i < rk_fn F ∧ rk_has (rk_fG F) (rk_fX F + S.2.2.2.2.2) t (r y) ∧ lv_has ls (rk_fn F) lv ∧ ∀ ls' : Array Slot, lv_has ls' (rk_fn F) ((i, r y) :: lv.filter (fun q => !(q.1 == i) && !(q.1 + 1 == i && q.2.category == 2))) → W p l e R s m args below meth c H locs 0 0 Q (F0 m n ls' st') := by
    intro i n ok h
    obtain ⟨lo, sk, en, kn, fc, co⟩ := S
    rcases sk with _ | ⟨y, sk'⟩
    · simp [rk_sto] at h
    · simp only [rk_sto] at h
      split at h
      · cases h
      · rename_i t ht
        split at h
        · rename_i hok
          simp only [Bool.and_eq_true, Nat.blt_eq] at hok
          cases h
          obtain ⟨st', e1, hS'⟩ := rk_pop hS
          refine ⟨y, t, st', lo.map fun q => (q.1, r q.2), e1, hok.1, hok.2.1, rk_val hS ht, hS.2.2.2.1, fun ls' hl => ?_⟩
          exact hk _ (List.mem_singleton.mpr rfl) r f H locs ls' _ (rk_stored hS' (rk_wf_lo hok.2.2) hl)
        · cases h
  have kari : ∀ ins' : Instr, ins = ins' → len = 1 → rk_ari nE (pc + 1) ins' S = some out → W p l e R s m args below meth c H locs 0 0 Q (F0 m pc ls st) := by
    intro ins' hi hl1 h
    subst hi
    subst hl1
    obtain ⟨lo, sk, en, kn, fc, co⟩ := S
    rcases sk with _ | ⟨y, _ | ⟨x, sk'⟩⟩
    · simp [rk_ari] at h
    · simp [rk_ari] at h
    · simp only [rk_ari] at h
      split at h
      · cases h
      · rename_i tx htx
        split at h
        · cases h
        · rename_i ty hty
          split at h
          · rename_i z hz
            cases h
            obtain ⟨rfl, xx, yy, ex, ey, ez⟩ := rk_cse_ok fc hS.2.2.1 hz
            obtain ⟨st1, d1, hS1⟩ := rk_pop hS
            obtain ⟨st2, d2, hS2⟩ := rk_pop hS1
            subst d1
            subst d2
            rw [ex, ey]
            refine lv_iadd hx hb hdg ?_
            have h3 := rk_push z hS2
            rw [ez] at h3
            exact hk _ (List.mem_singleton.mpr rfl) r f H locs ls _ h3
          · split at h
            · cases h
            · rename_i t fs hop
              split at h
              · rename_i hw
                cases h
                obtain ⟨xx, yy, zz, ex, ey, hm, hz, hfs⟩ := rk_op_ok hXc hS.2.2.1 hop (rk_val hS htx) (rk_val hS hty)
                obtain ⟨r', e0, e1, hS'⟩ := rk_fresh hS hw (.int zz)
                have lx : x < en.length := (List.getElem?_eq_some_iff.mp htx).1
                have ly : y < en.length := (List.getElem?_eq_some_iff.mp hty).1
                obtain ⟨st1, d1, hS1⟩ := rk_pop hS'
                obtain ⟨st2, d2, hS2⟩ := rk_pop hS1
                subst d1
                subst d2
                rw [e1 y ly, e1 x lx, ex, ey]
                refine rk_arW hx hb hdg hm ?_
                have h3 := rk_push en.length (rk_addfs fs (rk_enter (t := t) hS2 (by rw [e0]; exact hz)) (hfs r' e0 ((e1 x lx).trans ex) ((e1 y ly).trans ey)))
                rw [e0] at h3
                exact hk _ (List.mem_singleton.mpr rfl) r' f H locs ls _ h3
              · cases h
  have kld : ∀ (t : rk_AV) (v : Value), rk_isR t = true → rk_has (rk_fG F) (rk_fX F + S.2.2.2.2.2) t v → v = .null ∨ ∃ a : Nat, v = .ref a := fun t v a b => rk_isR_ok a b
  have kli : ∀ (t : rk_AV) (v : Value), rk_isI t = true → rk_has (rk_fG F) (rk_fX F + S.2.2.2.2.2) t v → ∃ x : Int32, v = .int x := fun t v a b => rk_isI_ok a b
  have kone : ∀ n, Nat.beq len n = true → len = n := fun n h => Nat.beq_eq ▸ h
  cases ins with
  | iconst n =>
    have := kone _ hlen; subst this
    exact lv_iconst hx hb hdg rfl (rk_mk_ok h hk hS ⟨_, rfl, Int.le_refl _, Int.le_refl _⟩)
  | bipush n =>
    have := kone _ hlen; subst this
    exact lv_bipush hx hb hdg rfl (rk_mk_ok h hk hS ⟨_, rfl, Int.le_refl _, Int.le_refl _⟩)
  | sipush n =>
    have := kone _ hlen; subst this
    exact lv_sipush hx hb hdg rfl (rk_mk_ok h hk hS ⟨_, rfl, Int.le_refl _, Int.le_refl _⟩)
  | ldc i =>
    have := kone _ hlen; subst this
    simp only [rk_s1] at h
    split at h
    · cases h
    · rename_i v hv
      exact lv_ldc hx hb hown (hcs i v hv) hdg (rk_mk_ok h hk hS ⟨_, rfl, Int.le_refl _, Int.le_refl _⟩)
  | ldc_w i =>
    have := kone _ hlen; subst this
    simp only [rk_s1] at h
    split at h
    · cases h
    · rename_i v hv
      exact lv_ldcw hx hb hown (hcs i v hv) hdg (rk_mk_ok h hk hS ⟨_, rfl, Int.le_refl _, Int.le_refl _⟩)
  | aconst_null =>
    have := kone _ hlen; subst this
    exact lv_null hx hb hdg (rk_mk_ok h hk hS (Or.inl rfl))
  | iload i =>
    have := kone _ hlen; subst this
    obtain ⟨y, t, h1, h2, h3, h4⟩ := kload i _ _ h
    obtain ⟨x, ex⟩ := kli t _ h2 h3
    rw [ex] at h1 h4
    exact lv_iload hx hb hdg h1 h4
  | iload_n i =>
    have := kone _ hlen; subst this
    obtain ⟨y, t, h1, h2, h3, h4⟩ := kload i _ _ h
    obtain ⟨x, ex⟩ := kli t _ h2 h3
    rw [ex] at h1 h4
    exact lv_iload_n hx hb hdg rfl h1 h4
  | aload i =>
    have := kone _ hlen; subst this
    obtain ⟨y, t, h1, h2, h3, h4⟩ := kload i _ _ h
    rcases kld t _ h2 h3 with ex | ⟨a, ex⟩
    · rw [ex] at h1 h4
      exact lv_aloadN hx hb hdg h1 h4
    · rw [ex] at h1 h4
      exact lv_aload hx hb hdg h1 h4
  | aload_n i =>
    have := kone _ hlen; subst this
    obtain ⟨y, t, h1, h2, h3, h4⟩ := kload i _ _ h
    rcases kld t _ h2 h3 with ex | ⟨a, ex⟩
    · rw [ex] at h1 h4
      exact lv_aload_nN hx hb hdg rfl h1 h4
    · rw [ex] at h1 h4
      exact lv_aload_n hx hb hdg rfl h1 h4
  | istore i =>
    have := kone _ hlen; subst this
    obtain ⟨y, t, st', lv, e1, h2, h3, h4, h5, h6⟩ := ksto i _ _ h
    obtain ⟨x, ex⟩ := kli t _ h2 h4
    subst e1
    rw [ex] at h6 ⊢
    exact lv_istore hx hb hdg h5 h3 rfl h6
  | istore_n i =>
    have := kone _ hlen; subst this
    obtain ⟨y, t, st', lv, e1, h2, h3, h4, h5, h6⟩ := ksto i _ _ h
    obtain ⟨x, ex⟩ := kli t _ h2 h4
    subst e1
    rw [ex] at h6 ⊢
    exact lv_istore_n hx hb hdg rfl h5 h3 rfl h6
  | astore i =>
    have := kone _ hlen; subst this
    obtain ⟨y, t, st', lv, e1, h2, h3, h4, h5, h6⟩ := ksto i _ _ h
    subst e1
    rcases kld t _ h2 h4 with ex | ⟨a, ex⟩
    · rw [ex] at h6 ⊢
      exact lv_astoreN hx hb hdg h5 h3 rfl h6
    · rw [ex] at h6 ⊢
      exact lv_astore hx hb hdg h5 h3 rfl h6
  | astore_n i =>
    have := kone _ hlen; subst this
    obtain ⟨y, t, st', lv, e1, h2, h3, h4, h5, h6⟩ := ksto i _ _ h
    subst e1
    rcases kld t _ h2 h4 with ex | ⟨a, ex⟩
    · rw [ex] at h6 ⊢
      exact lv_astore_nN hx hb hdg rfl h5 h3 rfl h6
    · rw [ex] at h6 ⊢
      exact lv_astore_n hx hb hdg rfl h5 h3 rfl h6
  | iinc i cst =>
    have := kone _ hlen; subst this
    have hg := @rk_get F nE r0 S r f H locs ls st i
    obtain ⟨lo, sk, en, kn, fc, co⟩ := S
    simp only [rk_s1, rk_inc] at h
    split at h
    · cases h
    · rename_i y hy
      split at h
      · cases h
      · rename_i t ht
        split at h
        · rename_i hok
          simp only [Bool.and_eq_true, Nat.blt_eq, decide_eq_true_eq] at hok
          obtain ⟨g1, g2, g3, g4, g5⟩ := hok
          cases h
          have hv := rk_val hS ht
          obtain ⟨x, ex⟩ := rk_isI_ok g1 hv
          have ec : (Int32.ofInt cst).toInt = cst := by
            rw [Int32.toInt_ofInt]
            exact rk_bmod (by omega) (by omega)
          obtain ⟨r', e0, e1, hS'⟩ := rk_fresh hS g3 (.int (x + Int32.ofInt cst))
          have ly : y < en.length := (List.getElem?_eq_some_iff.mp ht).1
          obtain ⟨k, hkk⟩ := List.getElem?_of_mem (List.mem_map.mpr ⟨(i, y), rk_lk_ok lo hy, rfl⟩ : (i, r' y) ∈ lo.map fun q => (q.1, r' q.2))
          have ey : r' y = .int x := (e1 y ly).trans ex
          rw [ey] at hkk
          have hv2 : rk_has (rk_fG F) (rk_fX F + co) t (.int x) := ex ▸ hv
          refine lv_iinc hx hb hdg hS'.2.2.2.1 hkk rfl g2 rfl (fun ls' hl => ?_)
          have hS2 := rk_enter (t := rk_add t (0, cst, cst)) hS' (by
            rw [e0]
            exact rk_add_ok hXc hv2 ⟨_, rfl, by omega, by omega⟩)
          have hS3 := rk_addfs (rk_lin en.length y t cst) hS2 (rk_lin_ok hXc hv2 ey e0 (fun a b => by rw [rk_add_e] <;> omega))
          have hl2 := hl
          rw [← e0] at hl2
          refine hk _ (List.mem_singleton.mpr rfl) r' f H locs ls' _ (rk_stored hS3 (fun q hq => ?_) hl2)
          obtain ⟨t', ht'⟩ := rk_wf_lo g3 q hq
          dsimp only at ht'
          exact ⟨t', by rw [List.getElem?_append_left (List.getElem?_eq_some_iff.mp ht').1]; exact ht'⟩
        · cases h
  | iadd => exact kari _ rfl (kone _ hlen) h
  | isub => exact kari _ rfl (kone _ hlen) h
  | imul => exact kari _ rfl (kone _ hlen) h
  | idiv => exact kari _ rfl (kone _ hlen) h
  | irem => exact kari _ rfl (kone _ hlen) h
  | iand => exact kari _ rfl (kone _ hlen) h
  | ior => exact kari _ rfl (kone _ hlen) h
  | ishl => exact kari _ rfl (kone _ hlen) h
  | ishr => exact kari _ rfl (kone _ hlen) h
  | iushr => exact kari _ rfl (kone _ hlen) h
  | pop =>
    have := kone _ hlen; subst this
    obtain ⟨lo, sk, en, kn, fc, co⟩ := S
    simp only [rk_s1] at h
    split at h
    · rename_i y sk'
      split at h
      · rename_i hy
        cases h
        obtain ⟨t, ht⟩ := Option.isSome_iff_exists.mp hy
        obtain ⟨st', d1, hS'⟩ := rk_pop hS
        subst d1
        exact lv_pop hx hb hdg (rk_has_cat (rk_val hS ht)) (hk _ (List.mem_singleton.mpr rfl) r f H locs ls _ hS')
      · cases h
    · cases h
  | dup =>
    have := kone _ hlen; subst this
    obtain ⟨lo, sk, en, kn, fc, co⟩ := S
    simp only [rk_s1] at h
    split at h
    · rename_i y sk'
      split at h
      · rename_i hy
        cases h
        obtain ⟨t, ht⟩ := Option.isSome_iff_exists.mp hy
        obtain ⟨st', d1, hS'⟩ := rk_pop hS
        subst d1
        exact lv_dup hx hb hdg (rk_has_cat (rk_val hS ht)) (hk _ (List.mem_singleton.mpr rfl) r f H locs ls _ (rk_push y hS))
      · cases h
    · cases h
  | dup2 =>
    have := kone _ hlen; subst this
    obtain ⟨lo, sk, en, kn, fc, co⟩ := S
    simp only [rk_s1] at h
    split at h
    · rename_i y x sk'
      split at h
      · rename_i hy
        simp only [Bool.and_eq_true] at hy
        cases h
        obtain ⟨t, ht⟩ := Option.isSome_iff_exists.mp hy.1
        obtain ⟨t2, ht2⟩ := Option.isSome_iff_exists.mp hy.2
        obtain ⟨st', d1, hS'⟩ := rk_pop hS
        obtain ⟨st2, d2, hS2⟩ := rk_pop hS'
        subst d1
        subst d2
        exact lv_dup2_11 hx hb hdg (rk_has_cat (rk_val hS ht)) (rk_has_cat (rk_val hS ht2)) (hk _ (List.mem_singleton.mpr rfl) r f H locs ls _ (rk_push y (rk_push x hS)))
      · cases h
    · cases h
  | goto o =>
    have := kone _ hlen; subst this
    simp only [rk_s1] at h
    split at h
    · rename_i ho
      cases h
      exact lv_goto hx hb hdg (rk_tgt_ok ho) (hk _ (List.mem_singleton.mpr rfl) r f H locs ls _ hS)
    · cases h
  | if_icmp cd o =>
    have := kone _ hlen; subst this
    obtain ⟨lo, sk, en, kn, fc, co⟩ := S
    simp only [rk_s1, rk_cmpS] at h
    split at h
    · rename_i y x sk'
      split at h
      · rename_i ho
        simp only [rk_two] at h
        split at h
        · cases h
        · rename_i la hla
          split at h
          · cases h
          · rename_i lb hlb
            cases h
            obtain ⟨st1, d1, hS1⟩ := rk_pop hS
            obtain ⟨st2, d2, hS2⟩ := rk_pop hS1
            subst d1
            subst d2
            have hxy : (∃ a : Int32, r x = .int a) ∧ ∃ b : Int32, r y = .int b := by
              simp only [rk_brn] at hla
              split at hla
              · cases hla
              · rename_i tx htx
                split at hla
                · cases hla
                · rename_i ty hty
                  split at hla
                  · cases hla
                  · rename_i a b hab
                    split at hla
                    · cases hla
                    · rename_i d e hde
                      obtain ⟨u, eu, -⟩ := rk_iv_ok hab (rk_val hS htx)
                      obtain ⟨v, ev, -⟩ := rk_iv_ok hde (rk_val hS hty)
                      exact ⟨⟨u, eu⟩, ⟨v, ev⟩⟩
            obtain ⟨⟨u, eu⟩, ⟨v, ev⟩⟩ := hxy
            rw [eu, ev]
            refine rk_icmp hx hb hdg (rk_tgt_ok ho) (fun hc => ?_) (fun hc => ?_)
            · obtain ⟨S', hS', ho'⟩ := rk_brn_ok hS2 hla (by rw [eu, ev]; exact hc)
              exact hk _ (List.mem_append_left _ (rk_at_mem hS')) r f H locs ls _ ho'
            · obtain ⟨S', hS', ho'⟩ := rk_brn_ok hS2 hlb (by rw [eu, ev]; exact hc)
              exact hk _ (List.mem_append_right _ (rk_at_mem hS')) r f H locs ls _ ho'
      · cases h
    · cases h
  | ifCond cd o =>
    have := kone _ hlen; subst this
    obtain ⟨lo, sk, en, kn, fc, co⟩ := S
    simp only [rk_s1, rk_if0S] at h
    split at h
    · rename_i x sk'
      split at h
      · rename_i ho
        simp only [rk_two] at h
        split at h
        · cases h
        · rename_i la hla
          split at h
          · cases h
          · rename_i lb hlb
            cases h
            obtain ⟨st1, d1, hS1⟩ := rk_pop hS
            subst d1
            have hxy : ∃ a : Int32, r x = .int a := by
              simp only [rk_br0] at hla
              split at hla
              · cases hla
              · rename_i tx htx
                split at hla
                · cases hla
                · rename_i a b hab
                  obtain ⟨u, eu, -⟩ := rk_iv_ok hab (rk_val hS htx)
                  exact ⟨u, eu⟩
            obtain ⟨u, eu⟩ := hxy
            rw [eu]
            refine rk_if0 hx hb hdg (rk_tgt_ok ho) (fun hc => ?_) (fun hc => ?_)
            · obtain ⟨S', hS', ho'⟩ := rk_br0_ok hS1 hla (by rw [eu]; exact hc)
              exact hk _ (List.mem_append_left _ (rk_at_mem hS')) r f H locs ls _ ho'
            · obtain ⟨S', hS', ho'⟩ := rk_br0_ok hS1 hlb (by rw [eu]; exact hc)
              exact hk _ (List.mem_append_right _ (rk_at_mem hS')) r f H locs ls _ ho'
      · cases h
    · cases h
  | ifnull o =>
    have := kone _ hlen; subst this
    obtain ⟨lo, sk, en, kn, fc, co⟩ := S
    simp only [rk_s1] at h
    split at h
    · rename_i ho
      simp only [rk_nul] at h
      split at h
      · rename_i x sk'
        obtain ⟨st1, d1, hS1⟩ := rk_pop hS
        subst d1
        split at h
        · cases h
        · rename_i t ht
          have hv := rk_val hS ht
          split at h
          · cases h
            obtain ⟨a, ea, -⟩ := hv
            rw [ea]
            exact lv_ifnull hx hb hdg (hk _ (List.mem_singleton.mpr rfl) r f H locs ls _ hS1)
          · cases h
            rcases hv with ea | ⟨a, ea, hg⟩
            · rw [ea]
              exact lv_ifnullN hx hb hdg (rk_tgt_ok ho) (hk _ List.mem_cons_self r f H locs ls _ hS1)
            · rw [ea]
              exact lv_ifnull hx hb hdg (hk _ (List.mem_cons_of_mem _ (List.mem_singleton.mpr rfl)) r f H locs ls _ (rk_ref hS1 ⟨a, ea, hg⟩))
          · cases h
      · cases h
    · cases h
  | ifnonnull o =>
    have := kone _ hlen; subst this
    obtain ⟨lo, sk, en, kn, fc, co⟩ := S
    simp only [rk_s1] at h
    split at h
    · rename_i ho
      simp only [rk_nul] at h
      split at h
      · rename_i x sk'
        obtain ⟨st1, d1, hS1⟩ := rk_pop hS
        subst d1
        split at h
        · cases h
        · rename_i t ht
          have hv := rk_val hS ht
          split at h
          · cases h
            obtain ⟨a, ea, -⟩ := hv
            rw [ea]
            exact lv_ifnonnull hx hb hdg (rk_tgt_ok ho) (hk _ (List.mem_singleton.mpr rfl) r f H locs ls _ hS1)
          · cases h
            rcases hv with ea | ⟨a, ea, hg⟩
            · rw [ea]
              exact lv_ifnonnullN hx hb hdg (hk _ List.mem_cons_self r f H locs ls _ hS1)
            · rw [ea]
              exact lv_ifnonnull hx hb hdg (rk_tgt_ok ho) (hk _ (List.mem_cons_of_mem _ (List.mem_singleton.mpr rfl)) r f H locs ls _ (rk_ref hS1 ⟨a, ea, hg⟩))
          · cases h
      · cases h
    · cases h
  | tableswitch d lo0 hi offs =>
    obtain ⟨lo, sk, en, kn, fc, co⟩ := S
    simp only [rk_s1, rk_tsw] at h
    split at h
    · rename_i x sk'
      obtain ⟨st1, d1, hS1⟩ := rk_pop hS
      subst d1
      split at h
      · cases h
      · rename_i t ht
        split at h
        · cases h
        · rename_i a b hab
          obtain ⟨u, eu, q1, q2⟩ := rk_iv_ok hab (rk_val hS ht)
          split at h
          · rename_i hok
            simp only [Bool.and_eq_true, List.all_eq_true, decide_eq_true_eq] at hok
            obtain ⟨g1, g2, g3⟩ := hok
            cases h
            rw [eu]
            by_cases hin : lo0 ≤ u.toInt ∧ u.toInt ≤ hi
            · have hlt : (u.toInt - lo0).toNat < offs.toList.length := by omega
              have ho : offs.toList[(u.toInt - lo0).toNat]? = some offs.toList[(u.toInt - lo0).toNat] := List.getElem?_eq_getElem hlt
              have hmem : offs.toList[(u.toInt - lo0).toNat] ∈ offs.toList := List.getElem_mem hlt
              generalize offs.toList[(u.toInt - lo0).toNat] = o at ho hmem
              refine lv_tableIn hx hb (off := o) (tgt := rk_tgt pc o) hdg (by omega) (by omega) (by rw [← Array.getElem?_toList]; exact ho) (rk_tgt_ok (g2 _ hmem)) ?_
              refine hk _ (List.mem_append_right _ (rk_tc_mem (S := (lo, sk', en, kn, fc, co)) offs.toList lo0 u.toInt o hin.1 ho q1 q2)) r f H locs ls _ (rk_ref hS1 ?_)
              rw [eu]
              exact ⟨u, rfl, Int.le_refl _, Int.le_refl _⟩
            · refine lv_tableOut hx hb hdg (by omega) (rk_tgt_ok g1) ?_
              refine hk (rk_tgt pc d, (lo, sk', en, kn, fc, co)) (List.mem_append_left _ ?_) r f H locs ls _ hS1
              rw [if_neg (by omega)]
              exact List.mem_singleton.mpr rfl
          · cases h
    · cases h
  | _ => simp [rk_s1] at h
end RKS
end
section
/-! instructions over cells -/
def rk_kn (y i : Nat) : List (Nat × Nat × Nat) → Option Nat
  | [] => none
  | q :: l => if Nat.beq q.1 y && Nat.beq q.2.1 i then some q.2.2 else rk_kn y i l
theorem rk_kn_ok {y i v : Nat} : ∀ l : List (Nat × Nat × Nat), rk_kn y i l = some v → (y, i, v) ∈ l
  | [], h => by cases h
  | q :: l, h => by
    unfold rk_kn at h
    split at h
    · rename_i hq
      simp only [Bool.and_eq_true, Nat.beq_eq] at hq
      obtain ⟨a, b, d⟩ := q
      dsimp only at hq h
      obtain ⟨rfl, rfl⟩ := hq
      cases h
      exact List.mem_cons_self
    · exact List.mem_cons_of_mem _ (rk_kn_ok l h)
/-- what a store of such a value costs the counters -/
def rk_dc (tv t : rk_AV) : Option Int := if rk_le tv t then some 0 else match t with
  | (1, 0, _) => (match tv with
    | (1, e, _) => if 0 ≤ e then some e else none
    | (0, a, b) => if 0 ≤ a ∧ 0 ≤ b then some b else none
    | _ => none)
  | _ => none
theorem rk_dc_ok {G : Nat → Option Nat} {X d : Int} {tv t : rk_AV} {v : Value} (hX : 0 ≤ X) (h : rk_dc tv t = some d) (hv : rk_has G X tv v) : 0 ≤ d ∧ rk_has G (X + d) t v := by
  unfold rk_dc at h
  split at h
  · rename_i hle
    cases h
    exact ⟨Int.le_refl 0, by rw [Int.add_zero]; exact rk_le_ok hX hle hv⟩
  · split at h
    · split at h
      · split at h
        · rename_i he
          cases h
          refine ⟨he, ?_⟩
          obtain ⟨x, rfl, h1, h2⟩ := hv
          exact ⟨x, rfl, h1, by omega⟩
        · cases h
      · split at h
        · rename_i he
          cases h
          refine ⟨he.2, ?_⟩
          obtain ⟨x, rfl, h1, h2⟩ := hv
          exact ⟨x, rfl, by omega, by omega⟩
        · cases h
      · cases h
    · cases h
abbrev rk_Fl : Type := Nat → Option (Nat × Nat × Nat)
def rk_gf (nE pc : Nat) (K : Nat → rk_KD) (fl : rk_Fl) (idx : Nat) (S : rk_St) : rk_Sc := match S with
  | (lo, sk, en, kn, fc, co) => match sk with
    | [] => none
    | y :: sk => match en[y]? with
      | some (2, k, _) => (match fl idx with
        | none => none
        | some (ci, i, _) => match K k.toNat with
          | (0, cj, _, ts) => if Nat.beq ci cj && Nat.blt i 1000000 then (match rk_kn y i kn with
            | some v => some [(pc + 3, (lo, v :: sk, en, kn, fc, co))]
            | none => match ts[i]? with
              | none => none
              | some t => if rk_wf nE S then some [(pc + 3, (lo, en.length :: sk, en ++ [t], (y, i, en.length) :: kn, fc, co))] else none) else none
          | _ => none)
      | _ => none
def rk_wOk (w : Nat) (tv : rk_AV) : Bool := if Nat.beq w 0 then rk_isI tv else if Nat.beq w 1 then rk_le tv (0, 0, 1) else if Nat.beq w 2 then rk_isR tv else false
def rk_aOk (tg : Nat) (K : Nat → rk_KD) (ap : Nat × Nat) (k : Nat) (tv : rk_AV) : Bool := if Nat.beq tg 1 then rk_isI tv else Nat.beq (K k).2.2.1 ap.1 && (Nat.beq tv.1 2 && (Nat.beq (K tv.2.1.toNat).1 0 && Nat.beq (K tv.2.1.toNat).2.1 ap.2))
def rk_pf (pm : Bool) (pc : Nat) (K : Nat → rk_KD) (fl : rk_Fl) (idx : Nat) (S : rk_St) : rk_Sc := match S with
  | (lo, sk, en, kn, fc, co) => match sk with
    | [] => none
    | v :: sk => match sk with
      | [] => none
      | y :: sk => match en[v]? with
        | none => none
        | some tv => match en[y]? with
          | some (2, k, _) => (match fl idx with
            | none => none
            | some (ci, i, w) => match K k.toNat with
              | (0, cj, _, ts) => if Nat.beq ci cj && Nat.blt i 1000000 then (match ts[i]? with
                | none => none
                | some t => match rk_dc tv t with
                  | none => none
                  | some d => if decide (co + d ≤ 10000000) && (rk_wOk w tv && !pm) then
                      some [(pc + 3, (lo, sk, en, (y, i, v) :: kn.filter (fun q => !(Nat.beq q.2.1 i)), fc, co + d))] else none) else none
              | _ => none)
          | _ => none
def rk_al (nE pc : Nat) (K : Nat → rk_KD) (S : rk_St) : rk_Sc := match S with
  | (lo, sk, en, kn, fc, co) => match sk with
    | [] => none
    | y :: sk => match en[y]? with
      | some (2, k, _) => (match K k.toNat with
        | (0, _, _, _) => none
        | (tg, n, _, _) => if Nat.blt n 2147483648 && Nat.blt tg 9 then (if rk_wf nE S then some [(pc + 1, (lo, en.length :: sk, en ++ [(0, (n : Int), (n : Int))], kn, fc, co))] else none) else none)
      | _ => none
abbrev rk_Er : Type := Nat → Int → Int → Option rk_AV
/-- tg 1: ints; 2: references -/
def rk_ald (nE pc tg : Nat) (K : Nat → rk_KD) (ER : rk_Er) (S : rk_St) : rk_Sc := match S with
  | (lo, sk, en, kn, fc, co) => match sk with
    | [] => none
    | i :: sk => match sk with
      | [] => none
      | y :: sk => match en[i]? with
        | none => none
        | some ti => match en[y]? with
          | some (2, k, _) => (match rk_iv ti with
            | none => none
            | some (a, b) => match ER k.toNat a b with
              | none => none
              | some t => if Nat.beq (K k.toNat).1 tg && (decide (0 ≤ a) && (decide (b < ((K k.toNat).2.1 : Int)) && rk_wf nE S)) then (match rk_kn y (1000000 + i) kn with
                | some v => some [(pc + 1, (lo, v :: sk, en, kn, fc, co))]
                | none => some [(pc + 1, (lo, en.length :: sk, en ++ [t], (y, 1000000 + i, en.length) :: kn, fc, co))]) else none)
          | _ => none
def rk_ast (pm : Bool) (pc tg : Nat) (K : Nat → rk_KD) (ER : rk_Er) (ap : Nat × Nat) (S : rk_St) : rk_Sc := match S with
  | (lo, sk, en, kn, fc, co) => match sk with
    | [] => none
    | v :: sk => match sk with
      | [] => none
      | i :: sk => match sk with
        | [] => none
        | y :: sk => match en[v]? with
          | none => none
          | some tv => match en[i]? with
            | none => none
            | some ti => match en[y]? with
              | some (2, k, _) => (match rk_iv ti with
                | none => none
                | some (a, b) => match ER k.toNat a b with
                  | none => none
                  | some t => match rk_dc tv t with
                    | none => none
                    | some d => if Nat.beq (K k.toNat).1 tg && (decide (0 ≤ a) && (decide (b < ((K k.toNat).2.1 : Int)) && (decide (co + d ≤ 10000000) && (rk_aOk tg K ap k.toNat tv && !pm)))) then
                        some [(pc + 1, (lo, sk, en, kn.filter (fun q => Nat.blt q.2.1 1000000), fc, co + d))] else none)
              | _ => none
def rk_s2 (pm : Bool) (nE : Nat) (K : Nat → rk_KD) (ER : rk_Er) (fl : rk_Fl) (ap : Nat × Nat) (pc : Nat) (ins : Instr) (S : rk_St) : rk_Sc := match ins with
  | .getfield i => rk_gf nE pc K fl i S
  | .putfield i => rk_pf pm pc K fl i S
  | .arraylength => rk_al nE pc K S
  | .iaload => rk_ald nE pc 1 K ER S
  | .aaload => rk_ald nE pc 2 K ER S
  | .iastore => rk_ast pm pc 1 K ER ap S
  | .aastore => rk_ast pm pc 2 K ER ap S
  | _ => none
section RKH
variable {p : Program} {l : Launch} {e : Env} {R : Room} {s : State} {m : MethodId} {args : Array Value} {below : List Frame} {meth : Method} {c : Code} {Q : State → Prop} {cc : ByteArray} {nE : Nat} {r0 : Nat → Value}
variable {Pf : (Nat → va_E) → Prop} {K : Nat → rk_KD} {E : Nat → Nat → rk_AV} {tys : List (ClassId × FieldType)} {D : va_G} {A : Nat → Prop} {H0 : Heap} {G : Nat → Option Nat} {L : List Nat} {nL : Nat} {X : Int}
/-- what the tables say of a field: its class, its place, how it may be stored -/
def rk_FlOk (s : State) (args : Array Value) (Ts : List Jvm.Cond) (own : String) (fl : rk_Fl) : Prop := ∀ (idx ci k w : Nat), fl idx = some (ci, k, w) → ∃ (C : String) (T : u_T) (N : Nat) (ty0 : Nat → FieldType), vwCl[ci]? = some (C, T, N) ∧ k < N ∧ (∀ z ∈ u_ws C T N, z ∈ Ts) ∧ (∀ j, j < N → parseFieldDescriptor (T j).2.2.1 = some (ty0 j)) ∧ (∀ a, a < N → ∀ b, b < N → a ≠ b → (T a).2.1 ≠ (T b).2.1) ∧
  ((Jvm.Cond.fieldLink own idx (T k).1 (T k).2.1 (T k).2.2.1).before args s = true ∨ ∃ host : String, (Jvm.Cond.fieldLinkNest own idx (T k).1 (T k).2.1 (T k).2.2.1 host).before args s = true) ∧
  (w < 3 → (T k).2.2.2 = false) ∧ (w = 0 → ty0 k = .int) ∧ (w = 1 → ty0 k = .boolean) ∧ (w = 2 → ∃ n, ty0 k = .object n)
theorem rk_typed {co : Int} {f : Nat → va_E} {H : Heap} {locs : List Loc} {a k : Nat} (h : rk_w (Pf, K, E, tys, D, A, H0, G, L, nL, X) co f H locs) (ha : G a = some k) (hk9 : (K k).1 ≠ 9) : ∃ q0 : Nat, (va_pl L f)[q0]? = some (a, f a) ∧ rk_cell K E tys G (X + co) k (f a) := by
  obtain ⟨hP, hD, hS, hT, -⟩ := h
  obtain ⟨h1, h2⟩ := hT.1 a k ha hk9
  obtain ⟨q0, hq⟩ := va_pl_get (X := []) (f := f) h1
  exact ⟨q0, hq, h2⟩
theorem rk_w_up (hPf : ∀ f, Pf f) {co d : Int} {f : Nat → va_E} {H H1 : Heap} {locs locs1 : List Loc} {a k q0 : Nat} {e : va_E} (h : rk_w (Pf, K, E, tys, D, A, H0, G, L, nL, X) co f H locs) (ha : G a = some k) (hk9 : (K k).1 ≠ 9) (hd : 0 ≤ d) (hq : (va_pl L f)[q0]? = some (a, f a)) (he : rk_cell K E tys G (X + (co + d)) k e) (hP1 : va_P D vwCl ((va_pl L f).set q0 (a, e)) H1) (hS1 : va_S A H0 H1 locs1) : rk_w (Pf, K, E, tys, D, A, H0, G, L, nL, X) (co + d) (va_up f a e) H1 locs1 := by
  obtain ⟨hP, hD, hS, hT, -⟩ := h
  have hL := (hT.1 a k ha hk9).1
  have e1 := va_pl_set (X := []) (e := e) hD hL hq
  have e2 : (va_pl L f).set q0 (a, e) = va_pl L (va_up f a e) := e1
  rw [e2] at hP1
  have hD1 : va_D A (va_pl L (va_up f a e)) := by
    rw [← e2]
    exact hD.set hq
  exact ⟨hP1, hD1, hS1, rk_TY_up (rk_TY_X (by omega) hT) ha he, hPf _⟩
theorem rk_s2_ok {pm : Bool} (hPf : pm = false → ∀ f, Pf f) (hx : p.tables.exec = Jvm.exec) (hb : c.code = cc) {own : String} (hown : s.vm.findClass own = some m.cls) {Ts : List Jvm.Cond} (hts : ∀ w ∈ Ts, w.before args s = true) (hK : va_K D vwCl tys s) {fl : rk_Fl} (hfl : rk_FlOk s args Ts own fl) {ER : rk_Er} (hER : ∀ k a b t, ER k a b = some t → ∀ j : Nat, a ≤ (j : Int) → (j : Int) ≤ b → E k j = t) {ap : Nat × Nat} (hap : ∀ cA C, tys[ap.1]? = some (cA, .object C) → ∃ q, vwCl[ap.2]? = some q ∧ q.1 = C) (hX : 0 ≤ X)
    {pc len : Nat} {ins : Instr} {S : rk_St} {out : List (Nat × rk_St)} (hdg : decode cc pc = .ok (ins, len)) (hlen : rk_lenOk ins len = true) (h : rk_s2 pm nE K ER fl ap pc ins S = some out) (hk : ∀ q ∈ out, rk_G p l e R s m args below meth c Q (Pf, K, E, tys, D, A, H0, G, L, nL, X) nE r0 q.1 q.2) : rk_G p l e R s m args below meth c Q (Pf, K, E, tys, D, A, H0, G, L, nL, X) nE r0 pc S := by
  intro r f H locs ls st hS
  obtain ⟨lo, sk, en, kn, fc, co⟩ := S
  have hco := hS.2.2.2.2.2.2.1
  have hw := hS.2.2.2.2.2.2.2
  have kone : ∀ n, Nat.beq len n = true → len = n := fun n h => Nat.beq_eq ▸ h
  have kald : ∀ tg : Nat, rk_ald nE pc tg K ER (lo, sk, en, kn, fc, co) = some out → ∃ (a : Nat) (i : Int32) (st' : List Value) (t : rk_AV) (k : Nat), st = .int i :: .ref a :: st' ∧ G a = some k ∧ (K k).1 = tg ∧ 0 ≤ i.toInt ∧ i.toInt < ((K k).2.1 : Int) ∧ E k i.toNatClampNeg = t ∧ ∀ v, rk_has G (X + co) t v → rk_elt (f a) (.int i) = some v → W p l e R s m args below meth c H locs 0 0 Q (F0 m (pc + 1) ls (v :: st')) := by
    intro tg h
    rcases sk with _ | ⟨i, _ | ⟨y, sk'⟩⟩
    · simp [rk_ald] at h
    · simp [rk_ald] at h
    · simp only [rk_ald] at h
      split at h
      · cases h
      · rename_i ti hti
        split at h
        · rename_i k z hty
          split at h
          · cases h
          · rename_i a b hab
            split at h
            · cases h
            · rename_i t ht
              split at h
              · rename_i hok
                simp only [Bool.and_eq_true, Nat.beq_eq, decide_eq_true_eq] at hok
                obtain ⟨g1, g2, g3, g4⟩ := hok
                obtain ⟨ix, ei, q1, q2⟩ := rk_iv_ok hab (rk_val hS hti)
                obtain ⟨aa, ea, hg⟩ := rk_val hS hty
                obtain ⟨st1, d1, hS1⟩ := rk_pop hS
                obtain ⟨st2, d2, hS2⟩ := rk_pop hS1
                obtain ⟨n, en1, en2, en3⟩ := rk_nI (x := ix) (by omega)
                have hcl : ix.toNatClampNeg = n := by rw [en1]; exact nI_clamp en3
                refine ⟨aa, ix, st2, t, k.toNat, by rw [d1, d2, ei, ea], hg, g1, by omega, by omega, by rw [hcl]; exact hER _ _ _ _ ht n (by omega) (by omega), fun v hv hel => ?_⟩
                have li : i < en.length := (List.getElem?_eq_some_iff.mp hti).1
                have ly : y < en.length := (List.getElem?_eq_some_iff.mp hty).1
                split at h
                · rename_i vv hkn
                  cases h
                  have hmem := rk_kn_ok kn hkn
                  obtain ⟨a', e1, e2⟩ := hS.2.1 _ hmem
                  dsimp only at e1 e2
                  rw [ea] at e1
                  cases e1
                  unfold rk_kf at e2
                  rw [if_neg (by omega), Nat.add_sub_cancel_left, ei, hel] at e2
                  cases e2
                  exact hk _ (List.mem_singleton.mpr rfl) r f H locs ls _ (rk_push vv hS2)
                · cases h
                  obtain ⟨r', e0, e1, hS'⟩ := rk_fresh hS g4 v
                  obtain ⟨st3, d3, hS3⟩ := rk_pop hS'
                  obtain ⟨st4, d4, hS4⟩ := rk_pop hS3
                  have e5 : st4 = st2 := by
                    rw [d1, d2] at d3
                    rw [d4] at d3
                    simp only [List.cons.injEq] at d3
                    exact d3.2.2.symm
                  have h5 := rk_push en.length (rk_addk (q := (y, 1000000 + i, en.length)) (rk_enter (t := t) hS4 (by rw [e0]; exact hv)) ⟨aa, by rw [e1 y ly]; exact ea, by
                    dsimp only
                    unfold rk_kf
                    rw [if_neg (by omega), Nat.add_sub_cancel_left, e1 i li, ei, e0]
                    exact hel⟩)
                  rw [e0, e5] at h5
                  exact hk _ (List.mem_singleton.mpr rfl) r' f H locs ls _ h5
              · cases h
        · cases h
  have kast : ∀ tg : Nat, rk_ast pm pc tg K ER ap (lo, sk, en, kn, fc, co) = some out → pm = false ∧ ∃ (a : Nat) (i : Int32) (v : Value) (st' : List Value) (t tv : rk_AV) (d : Int) (k : Nat), st = v :: .int i :: .ref a :: st' ∧ G a = some k ∧ (K k).1 = tg ∧ 0 ≤ i.toInt ∧ i.toInt < ((K k).2.1 : Int) ∧ E k i.toNatClampNeg = t ∧ 0 ≤ d ∧ rk_has G (X + (co + d)) t v ∧ rk_has G (X + co) tv v ∧ (if Nat.beq tg 1 then rk_isI tv = true else (K k).2.2.1 = ap.1 ∧ tv.1 = 2 ∧ (K tv.2.1.toNat).1 = 0 ∧ (K tv.2.1.toNat).2.1 = ap.2) ∧
      ∀ (f1 : Nat → va_E) (H1 : Heap) (locs1 : List Loc), rk_w (Pf, K, E, tys, D, A, H0, G, L, nL, X) (co + d) f1 H1 locs1 → (∀ b j, rk_fld (f1 b) j = rk_fld (f b) j) → W p l e R s m args below meth c H1 locs1 0 0 Q (F0 m (pc + 1) ls st') := by
    intro tg h
    rcases sk with _ | ⟨v, _ | ⟨i, _ | ⟨y, sk'⟩⟩⟩
    · simp [rk_ast] at h
    · simp [rk_ast] at h
    · simp [rk_ast] at h
    · simp only [rk_ast] at h
      split at h
      · cases h
      · rename_i tv htv
        split at h
        · cases h
        · rename_i ti hti
          split at h
          · rename_i k z hty
            split at h
            · cases h
            · rename_i a b hab
              split at h
              · cases h
              · rename_i t ht
                split at h
                · cases h
                · rename_i d hd
                  split at h
                  · rename_i hok
                    simp only [Bool.and_eq_true, Nat.beq_eq, decide_eq_true_eq] at hok
                    obtain ⟨g1, g2, g3, g4, g5, g5m⟩ := hok
                    cases h
                    have hvv := rk_val hS htv
                    obtain ⟨hd0, hdv⟩ := rk_dc_ok (X := X + co) (by omega) hd hvv
                    obtain ⟨ix, ei, q1, q2⟩ := rk_iv_ok hab (rk_val hS hti)
                    obtain ⟨aa, ea, hg⟩ := rk_val hS hty
                    obtain ⟨st0, d0, hS0⟩ := rk_pop hS
                    obtain ⟨st1, d1, hS1⟩ := rk_pop hS0
                    obtain ⟨st2, d2, hS2⟩ := rk_pop hS1
                    obtain ⟨n, en1, en2, en3⟩ := rk_nI (x := ix) (by omega)
                    have hcl : ix.toNatClampNeg = n := by rw [en1]; exact nI_clamp en3
                    have hdv2 : rk_has G (X + (co + d)) t (r v) := by
                      have : X + co + d = X + (co + d) := by omega
                      rw [← this]
                      exact hdv
                    refine ⟨by simpa using g5m, aa, ix, r v, st2, t, tv, d, k.toNat, by rw [d0, d1, d2, ei, ea], hg, g1, by omega, by omega, by rw [hcl]; exact hER _ _ _ _ ht n (by omega) (by omega), hd0, hdv2, hvv, ?_, fun f1 H1 locs1 hw1 hfl1 => ?_⟩
                    · unfold rk_aOk at g5
                      split at g5
                      · rename_i htg
                        rw [if_pos htg]
                        exact g5
                      · rename_i htg
                        rw [if_neg htg]
                        simp only [Bool.and_eq_true, Nat.beq_eq] at g5
                        exact g5
                    · refine hk _ (List.mem_singleton.mpr rfl) r f1 H1 locs1 ls _ ?_
                      obtain ⟨h1, h2, h3, h4, h5, h6, h7, h8⟩ := hS2
                      exact ⟨fun y' t' ht' => rk_has_X (by
                        show X + co ≤ X + (co + d)
                        omega) (h1 y' t' ht'), fun q hq => by
                          obtain ⟨hq1, hq2⟩ := List.mem_filter.mp hq
                          rw [Nat.blt_eq] at hq2
                          obtain ⟨b1, b2, b3⟩ := h2 q hq1
                          refine ⟨b1, b2, ?_⟩
                          unfold rk_kf at b3 ⊢
                          rw [if_pos hq2] at b3 ⊢
                          rw [hfl1]
                          exact b3, h3, h4, h5, h6, ⟨by omega, by omega⟩, hw1⟩
                  · cases h
          · cases h
  cases ins with
  | getfield idx =>
    have := kone _ hlen; subst this
    rcases sk with _ | ⟨y, sk'⟩
    · simp [rk_s2, rk_gf] at h
    · simp only [rk_s2, rk_gf] at h
      split at h
      · rename_i k z hty
        split at h
        · cases h
        · rename_i ci i w hfi
          split at h
          · rename_i cj z2 ts hKk
            split at h
            · rename_i hcc
              rw [Bool.and_eq_true, Nat.beq_eq, Nat.blt_eq] at hcc
              obtain ⟨hcc, hi6⟩ := hcc
              subst hcc
              obtain ⟨a, ea, hg⟩ := rk_val hS hty
              obtain ⟨st1, d1, hS1⟩ := rk_pop hS
              subst d1
              rw [ea]
              obtain ⟨q0, hq0, hcell⟩ := rk_typed hw hg (by rw [hKk]; dsimp only; omega)
              unfold rk_cell at hcell
              rw [hKk] at hcell
              obtain ⟨fs, hfs, hfl0, hft⟩ := hcell
              rw [hfs] at hq0
              obtain ⟨C, T, N, ty0, hC, hkN, hin, hty0, hnm, hlink, -⟩ := hfl _ _ _ _ hfi
              have go : ∀ v : Value, fs[i]? = some v → W p l e R s m args below meth c H locs 0 0 Q (F0 m (pc + 3) ls (v :: st1)) → W p l e R s m args below meth c H locs 0 0 Q (F0 m pc ls (.ref a :: st1)) := by
                intro v hv kk
                rcases hlink with hl | ⟨host, hl⟩
                · exact va_get hx hb hts hin hown hK hw.1 q0 hq0 hC i hkN hl (fun _ h9 => h9) hv hdg kk
                · exact va_getN hx hb hts hin hown hK hw.1 q0 hq0 hC i hkN hl (fun _ h9 => h9) hv hdg kk
              split at h
              · rename_i v hkn
                cases h
                have hmem := rk_kn_ok kn hkn
                obtain ⟨a', e1, e2⟩ := hS.2.1 _ hmem
                dsimp only at e1 e2
                rw [ea] at e1
                cases e1
                rw [hfs] at e2
                unfold rk_kf at e2
                rw [if_pos hi6] at e2
                exact go _ e2 (hk _ (List.mem_singleton.mpr rfl) r f H locs ls _ (rk_push v hS1))
              · split at h
                · cases h
                · rename_i t ht
                  split at h
                  · rename_i hwf
                    cases h
                    have hlt : i < fs.length := by rw [hfl0]; exact (List.getElem?_eq_some_iff.mp ht).1
                    have hv : fs[i]? = some fs[i] := List.getElem?_eq_getElem hlt
                    refine go _ hv ?_
                    obtain ⟨r', e0, e1, hS'⟩ := rk_fresh hS hwf fs[i]
                    obtain ⟨st3, d3, hS3⟩ := rk_pop hS'
                    have ly : y < en.length := (List.getElem?_eq_some_iff.mp hty).1
                    have e5 : st3 = st1 := by
                      simp only [List.cons.injEq] at d3
                      exact d3.2.symm
                    have h5 := rk_push en.length (rk_addk (q := (y, i, en.length)) (rk_enter (t := t) hS3 (by rw [e0]; exact hft i t _ ht hv)) ⟨a, by rw [e1 y ly]; exact ea, by
                      dsimp only
                      unfold rk_kf
                      rw [if_pos hi6, hfs, e0]
                      exact hv⟩)
                    rw [e0, e5] at h5
                    exact hk _ (List.mem_singleton.mpr rfl) r' f H locs ls _ h5
                  · cases h
            · cases h
          · cases h
      · cases h
  | putfield idx =>
    have := kone _ hlen; subst this
    rcases sk with _ | ⟨v, _ | ⟨y, sk'⟩⟩
    · simp [rk_s2, rk_pf] at h
    · simp [rk_s2, rk_pf] at h
    · simp only [rk_s2, rk_pf] at h
      split at h
      · cases h
      · rename_i tv htv
        split at h
        · rename_i k z hty
          split at h
          · cases h
          · rename_i ci i w hfi
            split at h
            · rename_i cj z2 ts hKk
              split at h
              · rename_i hcc
                rw [Bool.and_eq_true, Nat.beq_eq, Nat.blt_eq] at hcc
                obtain ⟨hcc, hi6⟩ := hcc
                subst hcc
                split at h
                · cases h
                · rename_i t ht
                  split at h
                  · cases h
                  · rename_i d hd
                    split at h
                    · rename_i hok
                      simp only [Bool.and_eq_true, decide_eq_true_eq] at hok
                      obtain ⟨g1, g2, g2m⟩ := hok
                      have hpm : pm = false := by simpa using g2m
                      cases h
                      have hvv := rk_val hS htv
                      obtain ⟨hd0, hdv⟩ := rk_dc_ok (X := X + co) (by omega) hd hvv
                      have hdv2 : rk_has G (X + (co + d)) t (r v) := by
                        have : X + co + d = X + (co + d) := by omega
                        rw [← this]
                        exact hdv
                      obtain ⟨a, ea, hg⟩ := rk_val hS hty
                      obtain ⟨st0, d0, hS0⟩ := rk_pop hS
                      obtain ⟨st1, d1, hS1⟩ := rk_pop hS0
                      subst d0
                      subst d1
                      rw [ea]
                      obtain ⟨q0, hq0, hcell⟩ := rk_typed hw hg (by rw [hKk]; dsimp only; omega)
                      unfold rk_cell at hcell
                      rw [hKk] at hcell
                      obtain ⟨fs, hfs, hfl0, hft⟩ := hcell
                      have hq1 := hq0
                      rw [hfs] at hq1
                      obtain ⟨C, T, N, ty0, hC, hkN, hin, hty0, hnm, hlink, hf3, hf0, hf1, hf2⟩ := hfl _ _ _ _ hfi
                      have hlt : i < fs.length := by rw [hfl0]; exact (List.getElem?_eq_some_iff.mp ht).1
                      have kfit : w < 3 ∧ narrow (ty0 i) (r v) = r v ∧ fits (ty0 i) (r v) = true := by
                        unfold rk_wOk at g2
                        split at g2
                        · rename_i hw0
                          rw [Nat.beq_eq] at hw0
                          subst hw0
                          obtain ⟨x, ex⟩ := rk_isI_ok g2 hvv
                          rw [hf0 rfl, ex]
                          exact ⟨by omega, rfl, rfl⟩
                        · split at g2
                          · rename_i hw1
                            rw [Nat.beq_eq] at hw1
                            subst hw1
                            obtain ⟨x, ex, p1, p2⟩ := rk_le_ok (X := X + co) (by omega) g2 hvv
                            rw [hf1 rfl, ex]
                            have hx01 : x = 0 ∨ x = 1 := by
                              rcases (by omega : x.toInt = 0 ∨ x.toInt = 1) with h0 | h0
                              · exact Or.inl (Int32.toInt_inj.mp h0)
                              · exact Or.inr (Int32.toInt_inj.mp h0)
                            rcases hx01 with rfl | rfl
                            · exact ⟨by omega, rfl, rfl⟩
                            · exact ⟨by omega, rfl, rfl⟩
                          · split at g2
                            · rename_i hw2
                              rw [Nat.beq_eq] at hw2
                              subst hw2
                              obtain ⟨n, hn⟩ := hf2 rfl
                              rw [hn]
                              rcases rk_isR_ok g2 hvv with ex | ⟨b, ex⟩
                              · rw [ex]; exact ⟨by omega, rfl, rfl⟩
                              · rw [ex]; exact ⟨by omega, rfl, rfl⟩
                            · cases g2
                      have kk : ∀ (H1 : Heap) (locs1 : List Loc), va_P D vwCl ((va_pl L f).set q0 (a, .inr (ci, fs.set i (r v)))) H1 → va_D A ((va_pl L f).set q0 (a, .inr (ci, fs.set i (r v)))) → va_S A H0 H1 locs1 → W p l e R s m args below meth c H1 locs1 0 0 Q (F0 m (pc + 3) ls st1) := by
                        intro H1 locs1 hP1 hD1 hS9
                        have hcell2 : rk_cell K E tys G (X + (co + d)) k.toNat (.inr (ci, fs.set i (r v))) := by
                          unfold rk_cell
                          rw [hKk]
                          refine ⟨_, rfl, by rw [List.length_set]; exact hfl0, fun j t' v' hj hv' => ?_⟩
                          by_cases hji : j = i
                          · subst hji
                            rw [List.getElem?_set_self hlt] at hv'
                            cases hv'
                            rw [ht] at hj
                            cases hj
                            exact hdv2
                          · rw [List.getElem?_set_ne (Ne.symm hji)] at hv'
                            exact rk_has_X (by omega) (hft j t' v' hj hv')
                        have hw1 := rk_w_up (hPf hpm) (d := d) hw hg (by rw [hKk]; dsimp only; omega) hd0 hq0 hcell2 hP1 hS9
                        refine hk _ (List.mem_singleton.mpr rfl) r (va_up f a (.inr (ci, fs.set i (r v)))) H1 locs1 ls _ ?_
                        obtain ⟨h1, h2, h3, h4, h5, h6, h7, h8⟩ := hS1
                        refine ⟨fun y' t' ht' => rk_has_X (by
                          show X + co ≤ X + (co + d)
                          omega) (h1 y' t' ht'), fun q hq => ?_, h3, h4, h5, h6, ⟨by omega, by omega⟩, hw1⟩
                        rcases List.mem_cons.mp hq with rfl | hq
                        · refine ⟨a, ea, ?_⟩
                          dsimp only
                          unfold rk_kf
                          rw [if_pos hi6, va_up_self]
                          exact List.getElem?_set_self hlt
                        · obtain ⟨hq1, hq2⟩ := List.mem_filter.mp hq
                          obtain ⟨b, e1, e2⟩ := h2 q hq1
                          refine ⟨b, e1, ?_⟩
                          by_cases hba : b = a
                          · subst hba
                            rw [va_up_self]
                            rw [hfs] at e2
                            have hne : ¬ q.2.1 = i := by
                              intro h0
                              rw [h0] at hq2
                              simp at hq2
                            unfold rk_kf at e2 ⊢
                            split
                            · rename_i h6
                              rw [if_pos h6] at e2
                              show (fs.set i (r v))[q.2.1]? = _
                              rw [List.getElem?_set_ne (Ne.symm hne)]
                              exact e2
                            · rename_i h6
                              rw [if_neg h6] at e2
                              cases e2
                          · rw [va_up_ne _ _ hba]
                            exact e2
                      rcases hlink with hl | ⟨host, hl⟩
                      · exact va_put hx hb hts hin ty0 hty0 hnm hown hK hw.1 hw.2.1 hw.2.2.1 q0 hq1 hC i hkN hl (fun _ h9 => h9) (hf3 kfit.1) (hty0 i hkN) kfit.2.1 kfit.2.2 hlt hdg kk
                      · exact va_putN hx hb hts hin ty0 hty0 hnm hown hK hw.1 hw.2.1 hw.2.2.1 q0 hq1 hC i hkN hl (fun _ h9 => h9) (hf3 kfit.1) (hty0 i hkN) kfit.2.1 kfit.2.2 hlt hdg kk
                    · cases h
              · cases h
            · cases h
        · cases h
  | arraylength =>
    have := kone _ hlen; subst this
    rcases sk with _ | ⟨y, sk'⟩
    · simp [rk_s2, rk_al] at h
    · simp only [rk_s2, rk_al] at h
      split at h
      · rename_i k z hty
        split at h
        · cases h
        · rename_i tg n t0 ts hno hKk
          split at h
          · rename_i hn
            rw [Bool.and_eq_true, Nat.blt_eq, Nat.blt_eq] at hn
            split at h
            · rename_i hwf
              cases h
              obtain ⟨a, ea, hg⟩ := rk_val hS hty
              obtain ⟨st1, d1, hS1⟩ := rk_pop hS
              subst d1
              rw [ea]
              obtain ⟨q0, hq0, hcell⟩ := rk_typed hw hg (by rw [hKk]; dsimp only; omega)
              unfold rk_cell at hcell
              rw [hKk] at hcell
              have hval : (Int32.ofNat n).toInt = (n : Int) := nI_toInt (by omega)
              have kk : W p l e R s m args below meth c H locs 0 0 Q (F0 m (pc + 1) ls (.int (Int32.ofNat n) :: st1)) := by
                obtain ⟨r', e0, e1, hS'⟩ := rk_fresh hS hwf (.int (Int32.ofNat n))
                obtain ⟨st3, d3, hS3⟩ := rk_pop hS'
                have e5 : st3 = st1 := by
                  simp only [List.cons.injEq] at d3
                  exact d3.2.symm
                have h5 := rk_push en.length (rk_enter (t := (0, (n : Int), (n : Int))) hS3 (by rw [e0]; exact ⟨_, rfl, by omega, by omega⟩))
                rw [e0, e5] at h5
                exact hk _ (List.mem_singleton.mpr rfl) r' f H locs ls _ h5
              rcases tg with _ | _ | tg
              · exact (hno rfl).elim
              · obtain ⟨cA, g, hf, ht, -⟩ := hcell
                rw [hf] at hq0
                exact va_alen hx hb hK hw.1 q0 0 hq0 ht rfl hdg kk
              · obtain ⟨cA, C, g, hf, ht, -⟩ := hcell
                rw [hf] at hq0
                exact va_alen hx hb hK hw.1 q0 t0 hq0 ht rfl hdg kk
            · cases h
          · cases h
      · cases h
  | iaload =>
    have := kone _ hlen; subst this
    obtain ⟨a, i, st', t, k, d1, hg, g1, g2, g3, g4, kk⟩ := kald 1 h
    subst d1
    obtain ⟨q0, hq0, hcell⟩ := rk_typed hw hg (by rw [g1]; decide)
    unfold rk_cell at hcell
    generalize hKk : K k = kd at hcell g1 g3
    obtain ⟨tg, n, t0, ts⟩ := kd
    dsimp only at g1 g3
    subst g1
    obtain ⟨cA, g, hf, ht, hr⟩ := hcell
    rw [hf] at hq0
    obtain ⟨m', e1, e2, e3⟩ := rk_nI g2
    have hcl : i.toNatClampNeg = m' := by rw [e1]; exact nI_clamp e3
    refine va_iald hx hb hK hw.1 q0 0 hq0 ht (vp_in_iff.mpr ⟨g2, g3⟩) hdg (kk _ ?_ (by rw [hf]; rfl))
    rw [← g4, hcl]
    exact hr m' (by omega)
  | aaload =>
    have := kone _ hlen; subst this
    obtain ⟨a, i, st', t, k, d1, hg, g1, g2, g3, g4, kk⟩ := kald 2 h
    subst d1
    obtain ⟨q0, hq0, hcell⟩ := rk_typed hw hg (by rw [g1]; decide)
    unfold rk_cell at hcell
    generalize hKk : K k = kd at hcell g1 g3
    obtain ⟨tg, n, t0, ts⟩ := kd
    dsimp only at g1 g3
    subst g1
    obtain ⟨cA, C, g, hf, ht, hr⟩ := hcell
    rw [hf] at hq0
    obtain ⟨m', e1, e2, e3⟩ := rk_nI g2
    have hcl : i.toNatClampNeg = m' := by rw [e1]; exact nI_clamp e3
    refine va_aldq hx hb hK hw.1 q0 t0 hq0 ht (vp_in_iff.mpr ⟨g2, g3⟩) hdg (kk _ ?_ (by rw [hf]; rfl))
    rw [← g4, hcl]
    exact hr m' (by omega)
  | iastore =>
    have := kone _ hlen; subst this
    obtain ⟨hpm, a, i, v, st', t, tv, d, k, d1, hg, g1, g2, g3, g4, g5, g6, g7, g8, kk⟩ := kast 1 h
    subst d1
    obtain ⟨q0, hq0, hcell⟩ := rk_typed hw hg (by rw [g1]; decide)
    have hcell0 := hcell
    unfold rk_cell at hcell
    generalize hKk : K k = kd at hcell g1 g3
    obtain ⟨tg, n, t0, ts⟩ := kd
    dsimp only at g1 g3
    subst g1
    obtain ⟨cA, g, hf, ht, hr⟩ := hcell
    have hq1 := hq0
    rw [hf] at hq1
    obtain ⟨m', e1, e2, e3⟩ := rk_nI g2
    have hcl : i.toNatClampNeg = m' := by rw [e1]; exact nI_clamp e3
    obtain ⟨x, ex⟩ := rk_isI_ok g8 g7
    subst ex
    refine va_iast hx hb hK hw.1 hw.2.1 hw.2.2.1 q0 0 hq1 ht (vp_in_iff.mpr ⟨g2, g3⟩) hdg (fun H1 locs1 hP1 hD1 hS1 => ?_)
    refine kk (va_up f a (.inl (cA, n, .inl (upd g i.toNatClampNeg x)))) H1 locs1 (rk_w_up (hPf hpm) (d := d) hw hg (by rw [hKk]; dsimp only; omega) g5 hq0 ?_ hP1 hS1) (fun b j => ?_)
    · unfold rk_cell
      rw [hKk]
      refine ⟨cA, _, rfl, ht, fun j hj => ?_⟩
      by_cases hji : j = i.toNatClampNeg
      · subst hji
        rw [pk_us, g4]
        exact g6
      · rw [pk_un hji]
        exact rk_has_X (by omega) (hr j hj)
    · by_cases hba : b = a
      · subst hba
        rw [va_up_self, hf]
        rfl
      · rw [va_up_ne _ _ hba]
  | aastore =>
    have := kone _ hlen; subst this
    obtain ⟨hpm, a, i, v, st', t, tv, d, k, d1, hg, g1, g2, g3, g4, g5, g6, g7, g8, kk⟩ := kast 2 h
    subst d1
    obtain ⟨q0, hq0, hcell⟩ := rk_typed hw hg (by rw [g1]; decide)
    have hcell0 := hcell
    unfold rk_cell at hcell
    have g8 : (K k).2.2.1 = ap.1 ∧ tv.1 = 2 ∧ (K tv.2.1.toNat).1 = 0 ∧ (K tv.2.1.toNat).2.1 = ap.2 := g8
    generalize hKk : K k = kd at hcell g1 g3 g8
    obtain ⟨tg, n, t0, ts⟩ := kd
    dsimp only at g1 g3 g8
    subst g1
    obtain ⟨cA, C, g, hf, ht, hr⟩ := hcell
    have hq1 := hq0
    rw [hf] at hq1
    obtain ⟨m', e1, e2, e3⟩ := rk_nI g2
    have hcl : i.toNatClampNeg = m' := by rw [e1]; exact nI_clamp e3
    obtain ⟨g81, g82, g83, g84⟩ := g8
    obtain ⟨tt, tk, tz⟩ := tv
    dsimp only at g82 g83 g84
    subst g82
    obtain ⟨b, eb, hgb⟩ := g7
    subst eb
    obtain ⟨qk, hqk, hcb⟩ := rk_typed hw hgb (by rw [g83]; decide)
    unfold rk_cell at hcb
    generalize hKb : K tk.toNat = kb at hcb g83 g84
    obtain ⟨tb, cb, tb0, tbs⟩ := kb
    dsimp only at g83 g84
    subst g83
    obtain ⟨fs, hfs, -⟩ := hcb
    rw [hfs] at hqk
    rw [g81] at ht
    obtain ⟨q, hq, hqC⟩ := hap cA C ht
    rw [← g84] at hq
    rw [← g81] at ht
    subst hqC
    refine va_astq hx hb hK hw.1 hw.2.1 hw.2.2.1 q0 t0 qk cb hq1 ht hqk hq (vp_in_iff.mpr ⟨g2, g3⟩) hdg (fun H1 locs1 hP1 hD1 hS1 => ?_)
    refine kk (va_up f a (.inl (cA, n, .inr (.inr (.inr (.inr (va_up g i.toNatClampNeg (some b)))))))) H1 locs1 (rk_w_up (hPf hpm) (d := d) hw hg (by rw [hKk]; dsimp only; omega) g5 hq0 ?_ hP1 hS1) (fun b' j => ?_)
    · unfold rk_cell
      rw [hKk]
      refine ⟨cA, _, _, rfl, ht, fun j hj => ?_⟩
      by_cases hji : j = i.toNatClampNeg
      · subst hji
        rw [va_up_self, g4]
        exact g6
      · rw [va_up_ne _ _ hji]
        exact rk_has_X (by omega) (hr j hj)
    · by_cases hba : b' = a
      · subst hba
        rw [va_up_self, hf]
        rfl
      · rw [va_up_ne _ _ hba]
  | _ => simp [rk_s2] at h
end RKH
end
section
/-! contracts, calls, returns -/
abbrev rk_Alt : Type := rk_AV × List (Nat × rk_AV)
abbrev rk_Mt : Type := MethodName × ByteArray × Nat × Option FieldType × Nat × Nat
/-- the tables' words that stay -/
def rk_tbl : List Jvm.Cond := lw_tbl.filter goodWord
def rk_ws (M : rk_Mt) : List Jvm.Cond := Jvm.Cond.code M.1 M.2.1 M.2.2.1 M.2.2.2.1 :: rk_tbl
theorem rk_good {M : rk_Mt} {big : List Jvm.Cond} (hb : ∀ w ∈ rk_tbl, w ∈ big) (hc : Jvm.Cond.code M.1 M.2.1 M.2.2.1 M.2.2.2.1 ∈ rk_tbl) : GoodIn big (rk_ws M) := by
  have key : ∀ w ∈ rk_tbl, w ∈ big ∧ ((w.onTables && w.keeps) = true ∨ ∃ ty, w = .arrayClass ty) := fun w h => ⟨hb w h, good_of_word (List.mem_filter.mp h).2⟩
  intro w hw
  rcases List.mem_cons.mp hw with rfl | hw
  · exact key _ hc
  · exact key w hw
/-- the nest's words: they hold in every state that a walk comes to -/
def rk_N (nf : List (String × Nat × String × String × String × String)) (nm : List (String × Nat × MethodName × String)) (U : State) : Prop := (∀ q ∈ nf, va_Nw (.fieldLinkNest q.1 q.2.1 q.2.2.1 q.2.2.2.1 q.2.2.2.2.1 q.2.2.2.2.2) U) ∧ ∀ q ∈ nm, va_Nw (.methodLinkNest q.1 q.2.1 q.2.2.1 q.2.2.2) U
theorem rk_N_warm {nf : List (String × Nat × String × String × String × String)} {nm : List (String × Nat × MethodName × String)} {s U : State} (hW : s.WarmedH U.vm) (h : rk_N nf nm s) : rk_N nf nm U := ⟨fun q hq => va_Nw.warmF hW (h.1 q hq), fun q hq => va_Nw.warmM hW (h.2 q hq)⟩
theorem rk_N_same {nf : List (String × Nat × String × String × String × String)} {nm : List (String × Nat × MethodName × String)} {u U : State} (hv : u.vm = U.vm) (h : rk_N nf nm u) : rk_N nf nm U := ⟨fun q hq => va_Nw.same rfl hv (h.1 q hq), fun q hq => va_Nw.same rfl hv (h.2 q hq)⟩
def rk_Pre (D : va_G) (tys : List (ClassId × FieldType)) (NU : State → Prop) (L : List Nat) (f : Nat → va_E) (sz : Nat) : State → Prop := fun U => U.heap.size = sz ∧ va_P D vwCl (va_pl L f) U.heap ∧ va_K D vwCl tys U ∧ va_D (fun _ => True) (va_pl L f) ∧ NU U
def rk_Q (post : Option Value → (Nat → va_E) → Prop) (B : (Nat → va_E) → State → Prop) (A : Nat → Prop) : Array Value → State → Outcome → State → Prop := fun _ st oc t => (∃ (v : Option Value) (u : Nat → va_E), oc = .returned v ∧ post v u ∧ B u t) ∧ va_F A st t
/-- an answer is as one of the alternatives says -/
def rk_alt (G : Nat → Option Nat) (X : Int) (av : List Value) (alts : List rk_Alt) (v : Option Value) : Prop := ∃ a ∈ alts, (if a.1.1 = 9 then v = none else ∃ w, v = some w ∧ rk_has G X a.1 w) ∧ ∀ q ∈ a.2, ∃ w, av[q.1]? = some w ∧ rk_has G X q.2 w
def rk_all (G : Nat → Option Nat) (X : Int) (avs : List rk_AV) (av : List Value) : Prop := av.length = avs.length ∧ ∀ (i : Nat) (t : rk_AV) (v : Value), avs[i]? = some t → av[i]? = some v → rk_has G X t v
def rk_top : Int := 2000000000
def rk_post (K : Nat → rk_KD) (E : Nat → Nat → rk_AV) (tys : List (ClassId × FieldType)) (G : Nat → Option Nat) (X : Int) (L : List Nat) (f : Nat → va_E) (av : List Value) (alts : List rk_Alt) (pu : Bool) : Option Value → (Nat → va_E) → Prop := fun v u => rk_alt G X av alts v ∧ rk_TY K E tys G X L u ∧ (pu = true → u = f)
def rk_B (D : va_G) (tys : List (ClassId × FieldType)) (L : List Nat) (A : Nat → Prop) : (Nat → va_E) → State → Prop := fun u t => va_P D vwCl (va_pl L u) t.heap ∧ va_K D vwCl tys t ∧ va_D A (va_pl L u)
/-- THE CONTRACT of a method that makes nothing: from typed arguments and a typed world, an answer as the alternatives say, a typed world; the counters have grown by C at most -/
def rk_Met (base : Nat) (l : Launch) (K : Nat → rk_KD) (E : Nat → Nat → rk_AV) (tys : List (ClassId × FieldType)) (D : va_G) (NU : State → Prop) (M : rk_Mt) (avs : List rk_AV) (alts : List rk_Alt) (C : Int) (pu : Bool) : Prop :=
  ∀ (G : Nat → Option Nat) (X : Int) (L : List Nat) (f : Nat → va_E) (av : List Value) (sz : Nat), 0 ≤ X → X + C ≤ rk_top → rk_all G X avs av → rk_TY K E tys G X L f → (∀ a ∈ L, base ≤ a) → base ≤ sz →
    Met l M.1 (rk_ws M) { frames := M.2.2.2.2.1, cells := 0, slots := 0, locals := M.2.2.2.2.2 } (va_Pc av (rk_Pre D tys NU L f sz)) (rk_Q (rk_post K E tys G (X + C) L f av alts pu) (rk_B D tys L (va_A (va_pl L f) sz)) (va_A (va_pl L f) sz)) 0 0 (va_A (va_pl L f) sz)
abbrev rk_Ctr : Type := Nat → List rk_AV → Option (List rk_Alt × Int × Bool)
abbrev rk_Ml : Type := Nat → Option (Nat × Nat × Nat)
def rk_avs (en : List rk_AV) : List Nat → Option (List rk_AV)
  | [] => some []
  | y :: l => match en[y]? with
    | none => none
    | some t => match rk_avs en l with
      | none => none
      | some ts => some (t :: ts)
theorem rk_avs_ok {en : List rk_AV} : ∀ (ys : List Nat) (ts : List rk_AV), rk_avs en ys = some ts → ts.length = ys.length ∧ ∀ (i y : Nat) (t : rk_AV), ys[i]? = some y → ts[i]? = some t → en[y]? = some t
  | [], ts, h => by
    cases h
    exact ⟨rfl, fun i y t h _ => by simp at h⟩
  | y :: l, ts, h => by
    unfold rk_avs at h
    split at h
    · cases h
    · rename_i t ht
      split at h
      · cases h
      · rename_i ts' hts
        cases h
        obtain ⟨h1, h2⟩ := rk_avs_ok l ts' hts
        refine ⟨by simp [h1], fun i z u hz hu => ?_⟩
        rcases i with _ | i
        · simp only [List.getElem?_cons_zero, Option.some.injEq] at hz hu
          subst hz hu
          exact ht
        · rw [List.getElem?_cons_succ] at hz hu
          exact h2 i z u hz hu
/-- both are known -/
def rk_meet (t u : rk_AV) : rk_AV := match t with
  | (0, a, b) => (match u with
    | (0, c, d) => (0, max a c, min b d)
    | (n + 1, w) => (n + 1, w))
  | (_ + 1, _) => u
theorem rk_meet_ok {G : Nat → Option Nat} {X : Int} {t u : rk_AV} {v : Value} (h1 : rk_has G X t v) (h2 : rk_has G X u v) : rk_has G X (rk_meet t u) v := by
  obtain ⟨n, a, b⟩ := t
  obtain ⟨m, c, d⟩ := u
  rcases n with _ | n
  · rcases m with _ | m
    · obtain ⟨x, rfl, p1, p2⟩ := h1
      obtain ⟨y, e, q1, q2⟩ := h2
      cases e
      exact ⟨x, rfl, by omega, by omega⟩
    · exact h2
  · exact h2
/-- the arguments' symbols as an alternative knows them -/
def rk_rfs (ys : List Nat) : List (Nat × rk_AV) → List rk_AV → List rk_AV
  | [], en => en
  | q :: l, en => match ys[q.1]? with
    | none => rk_rfs ys l en
    | some y => match en[y]? with
      | none => rk_rfs ys l en
      | some t => rk_rfs ys l (en.set y (rk_meet t q.2))
def rk_altS (pc : Nat) (lo : List (Nat × Nat)) (rest ys : List Nat) (en : List rk_AV) (kn : List (Nat × Nat × Nat)) (fc : List (Nat × Nat × Nat × Int)) (co : Int) (a : rk_Alt) : Nat × rk_St := if Nat.beq a.1.1 9 then (pc, (lo, rest, rk_rfs ys a.2 en, kn, fc, co)) else (pc, (lo, en.length :: rest, rk_rfs ys a.2 en ++ [a.1], kn, fc, co))
/-- a receiver of class cr - 1 (0: none is wanted) -/
def rk_rcv (K : Nat → rk_KD) (cr : Nat) (avs : List rk_AV) : Bool := match cr with
  | 0 => true
  | ci + 1 => match avs with
    | (2, k, _) :: _ => Nat.beq (K k.toNat).1 0 && Nat.beq (K k.toNat).2.1 ci
    | _ => false
def rk_inv (cap : List rk_AV → Int → Bool) (pm : Bool) (nE pc : Nat) (K : Nat → rk_KD) (ml : rk_Ml) (ctr : rk_Ctr) (idx : Nat) (virt : Bool) (S : rk_St) : rk_Sc := match S with
  | (lo, sk, en, kn, fc, co) => match ml idx with
    | none => none
    | some (z, n, cr) => match rk_avs en (sk.take n).reverse with
      | none => none
      | some avs => match ctr z avs with
        | none => none
        | some (alts, C, pu) => if Nat.ble n sk.length && (Nat.ble (sk.drop n).length 8 && ((virt != Nat.beq cr 0) && (rk_rcv K cr avs && (decide (0 ≤ C) && (decide (co + C ≤ 10000000) && (rk_wf nE S && ((!pm || pu) && cap en (co + C)))))))) then
            some (alts.map (rk_altS (pc + 3) lo (sk.drop n) (sk.take n).reverse en (if pu then kn else []) fc (co + C))) else none
section RKC
variable {p : Program} {l : Launch} {e : Env} {R : Room} {s : State} {m : MethodId} {args : Array Value} {below : List Frame} {meth : Method} {c : Code} {Q : State → Prop} {cc : ByteArray} {nE : Nat} {r0 : Nat → Value}
variable {Pf : (Nat → va_E) → Prop} {K : Nat → rk_KD} {E : Nat → Nat → rk_AV} {tys : List (ClassId × FieldType)} {D : va_G} {A : Nat → Prop} {H0 : Heap} {G : Nat → Option Nat} {L : List Nat} {nL : Nat} {X : Int}
theorem rk_callW {H : Heap} {locs : List Loc} {pc : Nat} {ls : Array Slot} {rest st0 : List Value} {a : Array Value} {A0 A1 : Nat → Prop} {free : Addr → Prop} {post : Option Value → (Nat → va_E) → Prop} {B : (Nat → va_E) → State → Prop} (hr : va_Run p l e R s m args below meth c H locs 0 0 0 0 (F0 m pc ls st0) rest (rk_Q post B A1 a) free) (hS : va_S A0 H0 H locs) (hA : ∀ q, q < H.size → A1 q → A0 q) (hf : ∀ q, free q → A0 q)
    (kk : ∀ (v : Option Value) (u : Nat → va_E) (t : State) (H1 : Heap) (locs1 : List Loc), t.heap = H1 → s.vm.Alike t.vm → post v u → B u t → va_S A0 H0 H1 locs1 → W p l e R s m args below meth c H1 locs1 0 0 Q (F0 m (pc + 3) ls (v.toList ++ rest))) : W p l e R s m args below meth c H locs 0 0 Q (F0 m pc ls st0) := by
  intro T hT X
  obtain ⟨v, st₀, t, T', L, h0, X', hL, e1, e2, ⟨⟨v', u, hv, hp, hb⟩, hz, hk⟩, st⟩ := hr T hT X
  cases hv
  rw [h0] at hz hk
  obtain ⟨t2, a1, b1⟩ := kk v u t T'.heap (locs ++ L) e1.symm (by rw [← e2]; exact X'.warmed.alike) hp hb
    ⟨Nat.le_trans hS.1 (by rw [e1]; exact hz), fun q h1 h2 => by rw [e1, hk q (Nat.lt_of_lt_of_le h1 hS.1) (fun z => h2 (hA q (Nat.lt_of_lt_of_le h1 hS.1) z))]; exact hS.2.1 q h1 h2, fun q hq => by
      rcases List.mem_append.mp hq with h | h
      · exact hS.2.2 q h
      · exact hf _ (hL q h)⟩ T' rfl X'
  exact ⟨t2, st t2 a1, b1⟩
/-- what the tables say of a call -/
def rk_MlOk (s : State) (args : Array Value) (R : Room) (own : String) (mt : Nat → rk_Mt) (ml : rk_Ml) : Prop := ∀ (idx z n cr : Nat), ml idx = some (z, n, cr) → Jvm.Cond.code (mt z).1 (mt z).2.1 (mt z).2.2.1 (mt z).2.2.2.1 ∈ rk_tbl ∧ (Jvm.Cond.initialized (mt z).1.cls).before args s = true ∧ ((mt z).1.cls ≠ "java/lang/invoke/MethodHandle" ∧ (mt z).1.cls ≠ "java/lang/invoke/VarHandle") ∧
  ((Jvm.Cond.methodLink own idx (mt z).1).before args s = true ∨ ∃ host : String, va_Nw (.methodLinkNest own idx (mt z).1 host) s) ∧ ((mt z).2.2.2.2.1 + 1 ≤ R.frames ∧ 8 + ((mt z).2.2.1 + 11) + (mt z).2.2.2.2.2 ≤ R.locals) ∧
  (cr = 0 → (Jvm.Cond.static (mt z).1).before args s = true ∧ (parseMethodDescriptor (mt z).1.desc).map (fun d => d.parameters.length) = some n) ∧
  (∀ ci, cr = ci + 1 → (Jvm.Cond.instanceMethod (mt z).1).before args s = true ∧ (Jvm.Cond.selects (mt z).1.cls (mt z).1 (mt z).1).before args s = true ∧ (∃ q, vwCl[ci]? = some q ∧ q.1 = (mt z).1.cls) ∧ ∃ k, n = k + 1 ∧ (parseMethodDescriptor (mt z).1.desc).map (fun d => d.parameters.length) = some k)
theorem rk_rfs_len (ys : List Nat) : ∀ (l : List (Nat × rk_AV)) (en : List rk_AV), (rk_rfs ys l en).length = en.length
  | [], en => rfl
  | q :: l, en => by
    unfold rk_rfs
    split
    · exact rk_rfs_len ys l en
    · split
      · exact rk_rfs_len ys l en
      · rw [rk_rfs_len ys l, List.length_set]
theorem rk_rfs_ok {F : rk_Fx} {r : Nat → Value} {lo : List (Nat × Nat)} {sk : List Nat} {kn : List (Nat × Nat × Nat)} {fc : List (Nat × Nat × Nat × Int)} {co : Int} {f : Nat → va_E} {H : Heap} {locs : List Loc} {ls : Array Slot} {st : List Value} {ys : List Nat} : ∀ (q : List (Nat × rk_AV)) (en : List rk_AV), rk_on F nE r0 r (lo, sk, en, kn, fc, co) f H locs ls st → (∀ z ∈ q, ∀ y, ys[z.1]? = some y → rk_has (rk_fG F) (rk_fX F + co) z.2 (r y)) → rk_on F nE r0 r (lo, sk, rk_rfs ys q en, kn, fc, co) f H locs ls st
  | [], en, h, _ => h
  | z :: l, en, h, hz => by
    unfold rk_rfs
    split
    · exact rk_rfs_ok l en h (fun w hw => hz w (List.mem_cons_of_mem _ hw))
    · rename_i y hy
      split
      · exact rk_rfs_ok l en h (fun w hw => hz w (List.mem_cons_of_mem _ hw))
      · rename_i t ht
        exact rk_rfs_ok l _ (rk_ref h (rk_meet_ok (rk_val h ht) (hz z List.mem_cons_self y hy))) (fun w hw => hz w (List.mem_cons_of_mem _ hw))
set_option maxHeartbeats 1000000 in
theorem rk_inv_ok {cap : List rk_AV → Int → Bool} (hcap : ∀ (en : List rk_AV) (co X' : Int) (r : Nat → Value), (∀ y, y < nE → r y = r0 y) → (∀ y t, en[y]? = some t → rk_has G X' t (r y)) → cap en co = true → X + co ≤ rk_top) {pm : Bool} (hPf : pm = false → ∀ f, Pf f) (hx : p.tables.exec = Jvm.exec) (hb : c.code = cc) (hml9 : c.maxLocals = nL) {own : String} (hown : s.vm.findClass own = some m.cls) {Ts : List Jvm.Cond} (hts : ∀ w ∈ Ts, w.before args s = true) (htb : ∀ w ∈ rk_tbl, w ∈ Ts) (hK : va_K D vwCl tys s) {NU : State → Prop} (hNs : NU s) (hNw : ∀ (U : State) (locs : List Loc), va_S A H0 U.heap locs → s.WarmedH U.vm → NU U) (hNc : ∀ u U : State, u.vm = U.vm → u.heap = U.heap → NU u → NU U) {base : Nat} {mt : Nat → rk_Mt} {ml : rk_Ml} (hml : rk_MlOk s args R own mt ml) {ctr : rk_Ctr} (hct : ∀ z avs alts C pu, ctr z avs = some (alts, C, pu) → rk_Met base l K E tys D NU (mt z) avs alts C pu) (hBL : ∀ a ∈ L, base ≤ a) (hB0 : base ≤ H0.size) (hA : ∀ q, H0.size ≤ q → A q) (hX : 0 ≤ X)
    {pc idx : Nat} {virt : Bool} {S : rk_St} {out : List (Nat × rk_St)} (hdg : decode cc pc = .ok (if virt then .invokevirtual idx else .invokestatic idx, 3)) (h : rk_inv cap pm nE pc K ml ctr idx virt S = some out) (hk : ∀ q ∈ out, rk_G p l e R s m args below meth c Q (Pf, K, E, tys, D, A, H0, G, L, nL, X) nE r0 q.1 q.2) : rk_G p l e R s m args below meth c Q (Pf, K, E, tys, D, A, H0, G, L, nL, X) nE r0 pc S := by
  intro r f H locs ls st hS
  obtain ⟨lo, sk, en, kn, fc, co⟩ := S
  have hco := hS.2.2.2.2.2.2.1
  have hw := hS.2.2.2.2.2.2.2
  simp only [rk_inv] at h
  split at h
  · cases h
  · rename_i z n cr hidx
    split at h
    · cases h
    · rename_i avs havs
      split at h
      · cases h
      · rename_i alts C pu hctr
        split at h
        · rename_i hok
          simp only [Bool.and_eq_true, Nat.ble_eq, decide_eq_true_eq] at hok
          obtain ⟨g1, g2, g3, g4, g5, g6, g7, g8, g9⟩ := hok
          have hcp := hcap en (co + C) _ r hS.2.2.2.2.2.1 hS.1 g9
          cases h
          obtain ⟨al, ao⟩ := rk_avs_ok _ _ havs
          have hst : st = sk.map r := hS.2.2.2.2.1
          have ets : st = ((sk.take n).reverse.map r).reverse ++ (sk.drop n).map r := by
            rw [hst, ← List.map_reverse, List.reverse_reverse, ← List.map_append, List.take_append_drop]
          have hlen : (sk.take n).length = n := by rw [List.length_take]; omega
          have hall : rk_all G (X + co) avs ((sk.take n).reverse.map r) := by
            refine ⟨by rw [List.length_map, al], fun i t v ht hv => ?_⟩
            rw [List.getElem?_map] at hv
            cases hy : (sk.take n).reverse[i]? with
            | none => rw [hy] at hv; cases hv
            | some y =>
              rw [hy] at hv
              cases hv
              exact rk_val hS (ao i y t hy ht)
          have hcat : (((sk.drop n).map r).map fun v => v.category).sum ≤ 8 := by
            have hc1 : ∀ y ∈ sk.drop n, (r y).category = 1 := by
              intro y hy
              have hmem : y ∈ sk := List.mem_of_mem_drop hy
              simp only [rk_wf, Bool.and_eq_true, List.all_eq_true, Nat.blt_eq, Nat.ble_eq] at g7
              exact rk_has_cat (rk_val hS (List.getElem?_eq_getElem (g7.2.2.1 y hmem)))
            have : ∀ ys : List Nat, (∀ y ∈ ys, (r y).category = 1) → ((ys.map r).map fun v => v.category).sum = ys.length := by
              intro ys
              induction ys with
              | nil => intro _; rfl
              | cons y ys ih =>
                intro hy
                simp only [List.map_cons, List.sum_cons, List.length_cons]
                rw [ih (fun w hw => hy w (List.mem_cons_of_mem _ hw)), hy y List.mem_cons_self]
                omega
            rw [this _ hc1]
            exact g2
          have hM := hct z avs alts C pu hctr G (X + co) L f ((sk.take n).reverse.map r) H.size (by omega) (by omega) hall hw.2.2.2.1 hBL (Nat.le_trans hB0 hw.2.2.1.1)
          obtain ⟨k1, k2, k3, k4, k5, k6, k7⟩ := hml idx z n cr hidx
          have hF : ∀ q, va_A (va_pl L f) H.size q → A q := by
            intro q hq
            rcases hq with ⟨k, e9, hke⟩ | hq
            · exact hw.2.1.2 k (q, e9) hke
            · exact hA q (Nat.le_trans hw.2.2.1.1 hq)
          have hG := rk_good (M := mt z) htb k1
          have hbl : FrameBlind (va_Pc ((sk.take n).reverse.map r) (rk_Pre D tys NU L f H.size)) := fun a U g mk q => by
            obtain ⟨q0, q1, q2, q3, q4, q5⟩ := q
            exact ⟨q0, q1, q2, va_K.moved (u := U) (U := U.calling g mk a) (Vm.Alike.refl U.vm) q3, q4, hNc U _ rfl rfl q5⟩
          have hpre : ∀ U : State, U.heap = H → s.WarmedH U.vm → rk_Pre D tys NU L f H.size U := fun U hU hW => ⟨by rw [hU], by rw [hU]; exact hw.1, va_K.moved hW.alike hK, hw.2.1.weaken (fun _ _ _ _ => trivial), hNw U locs (by rw [hU]; exact hw.2.2.1) hW⟩
          have fin : ∀ (v : Option Value) (u : Nat → va_E) (t : State) (H1 : Heap) (locs1 : List Loc), t.heap = H1 → s.vm.Alike t.vm → rk_post K E tys G (X + co + C) L f ((sk.take n).reverse.map r) alts pu v u → rk_B D tys L (va_A (va_pl L f) H.size) u t → va_S A H0 H1 locs1 → W p l e R s m args below meth c H1 locs1 0 0 Q (F0 m (pc + 3) ls (v.toList ++ (sk.drop n).map r)) := by
            intro v u t H1 locs1 ht hvm hp hB hS1
            obtain ⟨⟨a, ha, hres, href⟩, hTY, hpu⟩ := hp
            obtain ⟨hP1, hK1, hD1⟩ := hB
            rw [ht] at hP1
            have eX : X + co + C = X + (co + C) := by omega
            rw [eX] at hTY hres href
            have hw1 : rk_w (Pf, K, E, tys, D, A, H0, G, L, nL, X) (co + C) u H1 locs1 := ⟨hP1, hD1.weaken (fun k q _ h9 => hF q.1 h9), hS1, hTY, by
              simp only [Bool.or_eq_true, Bool.not_eq_true'] at g8
              rcases g8 with h0 | h0
              · exact hPf h0 u
              · rw [hpu h0]
                exact hw.2.2.2.2⟩
            have hon : rk_on (Pf, K, E, tys, D, A, H0, G, L, nL, X) nE r0 r (lo, sk.drop n, en, if pu then kn else [], fc, co + C) u H1 locs1 ls ((sk.drop n).map r) := by
              obtain ⟨h1, h2, h3, h4, h5, h6, h7, h8⟩ := hS
              refine ⟨fun y' t' ht' => rk_has_X (by
                show X + co ≤ X + (co + C)
                omega) (h1 y' t' ht'), ?_, h3, h4, rfl, h6, ⟨by omega, by omega⟩, hw1⟩
              split
              · rename_i hpt
                rw [hpu hpt]
                exact h2
              · intro q hq; cases hq
            have hwf1 : rk_wf nE (lo, sk.drop n, en, if pu then kn else [], fc, co + C) = true := by
              simp only [rk_wf, Bool.and_eq_true, List.all_eq_true, Nat.blt_eq, Nat.ble_eq] at g7 ⊢
              refine ⟨g7.1, g7.2.1, fun y hy => g7.2.2.1 y (List.mem_of_mem_drop hy), ?_, g7.2.2.2.2⟩
              split
              · exact g7.2.2.2.1
              · intro q hq; cases hq
            have hmem : rk_altS (pc + 3) lo (sk.drop n) (sk.take n).reverse en (if pu then kn else []) fc (co + C) a ∈ alts.map (rk_altS (pc + 3) lo (sk.drop n) (sk.take n).reverse en (if pu then kn else []) fc (co + C)) := List.mem_map.mpr ⟨a, ha, rfl⟩
            have hgo := hk _ hmem
            have hrf : ∀ r' : Nat → Value, (∀ y, y < en.length → r' y = r y) → ∀ q ∈ a.2, ∀ y, (sk.take n).reverse[q.1]? = some y → rk_has G (X + (co + C)) q.2 (r' y) := by
              intro r' hr' q hq y hy
              obtain ⟨w, hw9, hh⟩ := href q hq
              rw [List.getElem?_map, hy] at hw9
              cases hw9
              have hyl : y < en.length := by
                simp only [rk_wf, Bool.and_eq_true, List.all_eq_true, Nat.blt_eq, Nat.ble_eq] at g7
                refine g7.2.2.1 y ?_
                have := List.mem_of_getElem? hy
                rw [List.mem_reverse] at this
                exact List.mem_of_mem_take this
              rw [hr' y hyl]
              exact hh
            unfold rk_altS at hgo
            by_cases h9 : a.1.1 = 9
            · rw [if_pos h9] at hres
              subst hres
              rw [if_pos (by rw [h9]; rfl)] at hgo
              exact hgo r u H1 locs1 ls _ (rk_rfs_ok a.2 en hon (hrf r (fun _ _ => rfl)))
            · rw [if_neg h9] at hres
              obtain ⟨w, rfl, hh⟩ := hres
              rw [if_neg (by
                intro h0
                rw [Nat.beq_eq] at h0
                exact h9 h0)] at hgo
              obtain ⟨r', e0, e1, hS'⟩ := rk_fresh hon hwf1 w
              have h5 := rk_push en.length (rk_enter (t := a.1) (rk_rfs_ok a.2 en hS' (hrf r' e1)) (by
                rw [rk_rfs_len, e0]
                exact hh))
              rw [e0] at h5
              exact hgo r' u H1 locs1 ls _ h5
          have hsz : ls.size = nL := hS.2.2.2.1.1
          cases virt with
          | true =>
            rcases cr with _ | ci
            · simp at g3
            · obtain ⟨i1, i2, ⟨q, hq, hqc⟩, k, hnk, hpar⟩ := k7 ci rfl
              -- the receiver
              obtain ⟨y0, ysr, hys⟩ : ∃ y0 ysr, (sk.take n).reverse = y0 :: ysr := by
                cases hr9 : (sk.take n).reverse with
                | nil =>
                  have : (sk.take n).reverse.length = n := by rw [List.length_reverse, hlen]
                  rw [hr9] at this
                  simp at this
                  omega
                | cons a b => exact ⟨a, b, rfl⟩
              have hlr : (y0 :: ysr).length = n := by rw [← hys, List.length_reverse, hlen]
              rw [hys] at al ao hall hM hbl ets fin
              have hrc : ∃ (k9 : Int) (z9 : Int) (tl : List rk_AV), avs = (2, k9, z9) :: tl ∧ (K k9.toNat).1 = 0 ∧ (K k9.toNat).2.1 = ci := by
                unfold rk_rcv at g4
                split at g4
                · rename_i h0; cases h0
                · rename_i ci' hci
                  cases hci
                  split at g4
                  · rename_i k9 z9 tl
                    simp only [Bool.and_eq_true, Nat.beq_eq] at g4
                    exact ⟨k9, z9, tl, rfl, g4.1, g4.2⟩
                  · cases g4
              obtain ⟨k9, z9, tl, hav, hK0, hK1⟩ := hrc
              have hy0 : en[y0]? = some (2, k9, z9) := ao 0 y0 _ rfl (by rw [hav]; rfl)
              obtain ⟨b, eb, hgb⟩ := rk_val hS hy0
              obtain ⟨q0, hq0, hcell⟩ := rk_typed hw hgb (by rw [hK0]; decide)
              unfold rk_cell at hcell
              generalize hKk : K k9.toNat = kd at hcell hK0 hK1
              obtain ⟨tg, cj, t0, ts⟩ := kd
              dsimp only at hK0 hK1
              subst hK0
              subst hK1
              obtain ⟨fs, hfs, -⟩ := hcell
              rw [hfs] at hq0
              have hrv := va_recv hK hw.1 hq hq0
              rw [hqc] at hrv
              have hPv : PreV s H (mt z).1.cls b (va_Pc (List.map r (y0 :: ysr)) (rk_Pre D tys NU L f H.size)) (ysr.map r) := ⟨hbl, hrv, fun U hU hW => ⟨by simp only [List.map_cons]; rw [eb], hpre U hU hW⟩⟩
              have hstk : st = (ysr.map r).reverse ++ .ref b :: (sk.drop n).map r := by
                rw [ets, List.map_cons, List.reverse_cons, eb, List.append_assoc]
                rfl
              have hk9 : (ysr.map r).length = k := by
                rw [List.length_map]
                simp only [List.length_cons] at hlr
                omega
              rcases k4 with hl | ⟨host, hl⟩
              · refine rk_callW (va_runV (As := ysr.map r) (rest := (sk.drop n).map r) (b := b) (C := (mt z).1.cls) ⟨hx, hb, hml9, hown, hts⟩ hM ⟨callB_of k hts hG rfl rfl rfl k2 hl ⟨k3.1, k3.2, hpar⟩ k5, i1, i2⟩ hPv rfl hk9 hsz hstk (lv_room hcat) hdg ⟨Nat.zero_le _, Nat.zero_le _⟩) hw.2.2.1 (fun q _ h9 => hF q h9) hF fin
              · refine rk_callW (va_runVN (As := ysr.map r) (rest := (sk.drop n).map r) (b := b) (C := (mt z).1.cls) ⟨hx, hb, hml9, hown, hts⟩ hM ⟨va_cnB k hts hG rfl rfl rfl hl k2 ⟨k3.1, k3.2, hpar⟩ k5, i1, i2⟩ hPv rfl hk9 hsz hstk (lv_room hcat) hdg ⟨Nat.zero_le _, Nat.zero_le _⟩) hw.2.2.1 (fun q _ h9 => hF q h9) hF fin
          | false =>
            rcases cr with _ | ci
            · obtain ⟨i1, hpar⟩ := k6 rfl
              have hPs : PreS s H (va_Pc ((sk.take n).reverse.map r) (rk_Pre D tys NU L f H.size)) ((sk.take n).reverse.map r) := ⟨hbl, fun U hU hW => ⟨rfl, hpre U hU hW⟩⟩
              have hk9 : ((sk.take n).reverse.map r).length = n := by rw [List.length_map, List.length_reverse, hlen]
              rcases k4 with hl | ⟨host, hl⟩
              · refine rk_callW (va_runS (As := (sk.take n).reverse.map r) (rest := (sk.drop n).map r) ⟨hx, hb, hml9, hown, hts⟩ hM ⟨callB_of n hts hG rfl rfl rfl k2 hl ⟨k3.1, k3.2, hpar⟩ k5, i1⟩ hPs rfl hk9 hsz ets (lv_room hcat) hdg ⟨Nat.zero_le _, Nat.zero_le _⟩) hw.2.2.1 (fun q _ h9 => hF q h9) hF fin
              · refine rk_callW (va_runSN (As := (sk.take n).reverse.map r) (rest := (sk.drop n).map r) ⟨hx, hb, hml9, hown, hts⟩ hM ⟨va_cnB n hts hG rfl rfl rfl hl k2 ⟨k3.1, k3.2, hpar⟩ k5, i1, trivial⟩ hPs rfl hk9 hsz ets (lv_room hcat) hdg ⟨Nat.zero_le _, Nat.zero_le _⟩) hw.2.2.1 (fun q _ h9 => hF q h9) hF fin
            · simp at g3
        · cases h
end RKC
end
section
/-! texts by their places, copies of rows, switches by a list -/
def rk_ldS (nE pc : Nat) (K : Nat → rk_KD) (ss : Nat → Option Nat) (i : Nat) (S : rk_St) : rk_Sc := match ss i with
  | none => none
  | some k => if Nat.beq (K k).1 9 then rk_mk nE (pc + 2) S (2, (k : Int), 0) else none
def rk_acp (pm : Bool) (pc : Nat) (K : Nat → rk_KD) (ER : rk_Er) (S : rk_St) : rk_Sc := match S with
  | (lo, sk, en, kn, fc, co) => match sk with
    | n :: dp :: d :: sp :: b :: rest => (match en[n]? with
      | none => none
      | some tn => match en[dp]? with
        | none => none
        | some tdp => match en[sp]? with
          | none => none
          | some tsp => match rk_cst tn with
            | none => none
            | some c => match en[d]? with
              | some (2, kd, _) => (match en[b]? with
                | some (2, kb, _) => (match ER kb.toNat 0 (c - 1) with
                  | none => none
                  | some t1 => match ER kd.toNat 0 (c - 1) with
                    | none => none
                    | some t2 => if rk_cst tdp = some 0 ∧ rk_cst tsp = some 0 ∧ 0 < c ∧ (K kd.toNat).1 = 1 ∧ (K kb.toNat).1 = 1 ∧ c ≤ ((K kd.toNat).2.1 : Int) ∧ c ≤ ((K kb.toNat).2.1 : Int) ∧ rk_le t1 t2 = true ∧ rest.length ≤ 8 ∧ pm = false ∧ rk_wf 0 S = true then some [(pc + 3, (lo, rest, en, kn.filter (fun q => Nat.blt q.2.1 1000000), fc, co))] else none)
                | _ => none)
              | _ => none)
    | _ => none
/-- the smaller of two: one of the two, by the comparison -/
def rk_mmn (pc : Nat) (S : rk_St) : rk_Sc := match S with
  | (lo, sk, en, kn, fc, co) => match sk with
    | y :: x :: rest => if rest.length ≤ 8 ∧ rk_wf 0 (lo, y :: x :: rest, en, kn, fc, co) = true then rk_two (pc + 3) (pc + 3) (rk_brn (lo, y :: rest, en, kn, fc, co) 2 y x) (rk_brn (lo, x :: rest, en, kn, fc, co) 3 y x) else none
    | _ => none
def rk_lc (pc x : Nat) (a b : Int) (S : rk_St) : List (Int × Int) → List (Nat × rk_St)
  | [] => []
  | q :: l => if a ≤ q.1 ∧ q.1 ≤ b then (rk_tgt pc q.2, (S.1, S.2.1, S.2.2.1.set x (0, q.1, q.1), S.2.2.2)) :: rk_lc pc x a b S l else rk_lc pc x a b S l
def rk_lsw (pc : Nat) (d : Int) (ps : Array (Int × Int)) (S : rk_St) : rk_Sc := match S with
  | (l0, sk, en, kn, fc, co) => match sk with
    | x :: sk => (match en[x]? with
      | none => none
      | some t => match rk_iv t with
        | none => none
        | some (a, b) => if rk_tok pc d && (ps.toList.all (fun q => rk_tok pc q.2) && (ps.toList.zip (ps.toList.drop 1)).all (fun (a, next) => a.1 < next.1)) then
            some ((rk_tgt pc d, (l0, sk, en, kn, fc, co)) :: rk_lc pc x a b (l0, sk, en, kn, fc, co) ps.toList) else none)
    | _ => none
theorem rk_lc_mem {pc x : Nat} {a b : Int} {S : rk_St} {d n : Int} (ha : a ≤ n) (hb : n ≤ b) : ∀ (l : List (Int × Int)), Op.lookupswitch.offset l d n = d ∨ ((rk_tgt pc (Op.lookupswitch.offset l d n), (S.1, S.2.1, S.2.2.1.set x (0, n, n), S.2.2.2)) ∈ rk_lc pc x a b S l ∧ (n, Op.lookupswitch.offset l d n) ∈ l)
  | [] => Or.inl rfl
  | q :: l => by
    obtain ⟨k, o⟩ := q
    unfold Op.lookupswitch.offset
    split
    · rename_i hk
      subst hk
      right
      unfold rk_lc
      rw [if_pos ⟨ha, hb⟩]
      exact ⟨List.mem_cons_self, List.mem_cons_self⟩
    · rcases rk_lc_mem (pc := pc) (x := x) (S := S) (d := d) ha hb l with h | ⟨h1, h2⟩
      · exact Or.inl h
      · right
        unfold rk_lc
        refine ⟨?_, List.mem_cons_of_mem _ h2⟩
        split
        · exact List.mem_cons_of_mem _ h1
        · exact h1
section RKM
variable {p : Program} {l : Launch} {e : Env} {R : Room} {s : State} {m : MethodId} {args : Array Value} {below : List Frame} {meth : Method} {c : Code} {Q : State → Prop} {cc : ByteArray} {nE : Nat} {r0 : Nat → Value}
variable {Pf : (Nat → va_E) → Prop} {K : Nat → rk_KD} {E : Nat → Nat → rk_AV} {tys : List (ClassId × FieldType)} {D : va_G} {A : Nat → Prop} {H0 : Heap} {G : Nat → Option Nat} {L : List Nat} {nL : Nat} {X : Int}
theorem rk_ldS_ok (hx : p.tables.exec = Jvm.exec) (hb : c.code = cc) {own : String} (hown : s.vm.findClass own = some m.cls) {ss : Nat → Option Nat} (hss : ∀ i k, ss i = some k → ∃ (tx : String) (a : Nat), vk_R own i tx a s ∧ (E k 0).2.1 = (a : Int))
    {pc i : Nat} {S : rk_St} {out : List (Nat × rk_St)} (hdg : decode cc pc = .ok (.ldc i, 2)) (h : rk_ldS nE pc K ss i S = some out) (hk : ∀ q ∈ out, rk_G p l e R s m args below meth c Q (Pf, K, E, tys, D, A, H0, G, L, nL, X) nE r0 q.1 q.2) : rk_G p l e R s m args below meth c Q (Pf, K, E, tys, D, A, H0, G, L, nL, X) nE r0 pc S := by
  intro r f H locs ls st hS
  unfold rk_ldS at h
  split at h
  · cases h
  · rename_i k hki
    split at h
    · rename_i h9
      rw [Nat.beq_eq] at h9
      obtain ⟨tx, a, h1, h2⟩ := hss i k hki
      have hw : rk_w (Pf, K, E, tys, D, A, H0, G, L, nL, X) S.2.2.2.2.2 f H locs := by
        obtain ⟨lo, sk, en, kn, fc, co⟩ := S
        exact hS.2.2.2.2.2.2.2
      have hG := (hw.2.2.2.1.2 a k h9).mpr h2
      exact va_ldcS hx hb hown h1 hdg (rk_mk_ok h hk hS ⟨a, rfl, by rw [Int.toNat_natCast]; exact hG⟩)
    · cases h
theorem rk_mmn_ok (hx : p.tables.exec = Jvm.exec) (hb : c.code = cc) (hml9 : c.maxLocals = nL) {own : String} (hown : s.vm.findClass own = some m.cls) {idx : Nat}
    (hac : (Jvm.Cond.methodLink own idx Lib.Math.min.name).before args s = true ∧ (Jvm.Cond.static Lib.Math.min.name).before args s = true ∧ (Jvm.Cond.initialized "java/lang/Math").before args s = true ∧ (Jvm.Cond.code Lib.Math.min.name Lib.Math.min.code 2 (some .int)).before args s = true ∧ 1 ≤ R.frames ∧ 8 + 13 ≤ R.locals)
    {pc : Nat} {S : rk_St} {out : List (Nat × rk_St)} (hdg : decode cc pc = .ok (.invokestatic idx, 3)) (h : rk_mmn pc S = some out) (hk : ∀ q ∈ out, rk_G p l e R s m args below meth c Q (Pf, K, E, tys, D, A, H0, G, L, nL, X) nE r0 q.1 q.2) : rk_G p l e R s m args below meth c Q (Pf, K, E, tys, D, A, H0, G, L, nL, X) nE r0 pc S := by
  intro r f H locs ls st hS
  obtain ⟨lo, sk, en, kn, fc, co⟩ := S
  rcases sk with _ | ⟨y, _ | ⟨x, rest⟩⟩
  · simp [rk_mmn] at h
  · simp [rk_mmn] at h
  · simp only [rk_mmn] at h
    split at h
    · rename_i hok
      obtain ⟨g9, g11⟩ := hok
      simp only [rk_two] at h
      split at h
      · cases h
      · rename_i la hla
        split at h
        · cases h
        · rename_i lb hlb
          cases h
          obtain ⟨st1, d1, hS1⟩ := rk_pop hS
          obtain ⟨st2, d2, hS2⟩ := rk_pop hS1
          subst d1 d2
          have hxy : (∃ a : Int32, r y = .int a) ∧ ∃ b : Int32, r x = .int b := by
            simp only [rk_brn] at hla
            split at hla
            · cases hla
            · rename_i tx htx
              split at hla
              · cases hla
              · rename_i ty hty
                split at hla
                · cases hla
                · rename_i a b hab
                  split at hla
                  · cases hla
                  · rename_i a2 b2 hab2
                    obtain ⟨v1, w1, _, _⟩ := rk_iv_ok hab (rk_val hS htx)
                    obtain ⟨v2, w2, _, _⟩ := rk_iv_ok hab2 (rk_val hS hty)
                    exact ⟨⟨v1, w1⟩, v2, w2⟩
          obtain ⟨⟨vy, ey⟩, vx, ex⟩ := hxy
          have hcat : ((rest.map r).map fun v => v.category).sum ≤ 8 := by
            have hc1 : ∀ y ∈ rest, (r y).category = 1 := by
              intro y hy
              simp only [rk_wf, Bool.and_eq_true, List.all_eq_true, Nat.blt_eq, Nat.ble_eq] at g11
              exact rk_has_cat (rk_val hS (List.getElem?_eq_getElem (g11.2.2.1 y (by simp [hy]))))
            have : ∀ ys : List Nat, (∀ y ∈ ys, (r y).category = 1) → ((ys.map r).map fun v => v.category).sum = ys.length := by
              intro ys
              induction ys with
              | nil => intro _; rfl
              | cons y ys ih =>
                intro hy
                simp only [List.map_cons, List.sum_cons, List.length_cons]
                rw [ih (fun w hw => hy w (List.mem_cons_of_mem _ hw)), hy y List.mem_cons_self]
                omega
            rw [this _ hc1]
            exact g9
          have hst2 : st2 = rest.map r := hS2.2.2.2.2.1
          have hsz : ls.size = nL := hS.2.2.2.1.1
          rw [ey, ex]
          refine va_mmin hx hb (hml9.trans hsz.symm) hown hac.1 hac.2.1 hac.2.2.1 hac.2.2.2.1 hac.2.2.2.2.1 (by rw [hst2]; have := hac.2.2.2.2.2; omega) (Nat.zero_le _) (Nat.zero_le _) hdg ?_
          by_cases hlt : vy < vx
          · rw [if_pos hlt, ← ey]
            obtain ⟨S', hm', hS'⟩ := rk_brn_ok (rk_push y hS2) hla (by rw [ey, ex]; exact Int32.lt_iff_toInt_lt.mp hlt)
            exact hk (pc + 3, S') (List.mem_append_left _ (List.mem_map.mpr ⟨S', hm', rfl⟩)) r f H locs ls _ hS'
          · rw [if_neg hlt, ← ex]
            obtain ⟨S', hm', hS'⟩ := rk_brn_ok (rk_push x hS2) hlb (by rw [ey, ex]; rw [Int32.lt_iff_toInt_lt] at hlt; exact Int.not_lt.mp hlt)
            exact hk (pc + 3, S') (List.mem_append_right _ (List.mem_map.mpr ⟨S', hm', rfl⟩)) r f H locs ls _ hS'
    · cases h
theorem rk_acp_ok {pm : Bool} (hPf : pm = false → ∀ f, Pf f) (hx : p.tables.exec = Jvm.exec) (hb : c.code = cc) (hml9 : c.maxLocals = nL) {own : String} (hown : s.vm.findClass own = some m.cls) (hK : va_K D vwCl tys s) {ER : rk_Er} (hER : ∀ k a b t, ER k a b = some t → ∀ j : Nat, a ≤ (j : Int) → (j : Int) ≤ b → E k j = t) (hX : 0 ≤ X) {idx : Nat}
    (hac : (Jvm.Cond.methodLink own idx arraycopyName).before args s = true ∧ (Jvm.Cond.native arraycopyName).before args s = true ∧ (Jvm.Cond.static arraycopyName).before args s = true ∧ (Jvm.Cond.initialized "java/lang/System").before args s = true ∧ 1 ≤ R.frames ∧ 8 + (nativeFrameWords "java/lang/System" "arraycopy" 5 + 11) ≤ R.locals)
    {pc : Nat} {S : rk_St} {out : List (Nat × rk_St)} (hdg : decode cc pc = .ok (.invokestatic idx, 3)) (h : rk_acp pm pc K ER S = some out) (hk : ∀ q ∈ out, rk_G p l e R s m args below meth c Q (Pf, K, E, tys, D, A, H0, G, L, nL, X) nE r0 q.1 q.2) : rk_G p l e R s m args below meth c Q (Pf, K, E, tys, D, A, H0, G, L, nL, X) nE r0 pc S := by
  intro r f H locs ls st hS
  obtain ⟨lo, sk, en, kn, fc, co⟩ := S
  have hco := hS.2.2.2.2.2.2.1
  have hw := hS.2.2.2.2.2.2.2
  rcases sk with _ | ⟨n, _ | ⟨dp, _ | ⟨d, _ | ⟨sp, _ | ⟨b, rest⟩⟩⟩⟩⟩
  · simp [rk_acp] at h
  · simp [rk_acp] at h
  · simp [rk_acp] at h
  · simp [rk_acp] at h
  · simp [rk_acp] at h
  · simp only [rk_acp] at h
    split at h
    · cases h
    · rename_i tn htn
      split at h
      · cases h
      · rename_i tdp htdp
        split at h
        · cases h
        · rename_i tsp htsp
          split at h
          · cases h
          · rename_i cst hcst
            split at h
            · rename_i kd zd hd
              split at h
              · rename_i kb zb hbb
                split at h
                · cases h
                · rename_i t1 ht1
                  split at h
                  · cases h
                  · rename_i t2 ht2
                    split at h
                    · rename_i hok
                      obtain ⟨g1, g2, g3, g4, g5, g6, g7, g8, g9, g10, g11⟩ := hok
                      cases h
                      obtain ⟨st1, d1, hS1⟩ := rk_pop hS
                      obtain ⟨st2, d2, hS2⟩ := rk_pop hS1
                      obtain ⟨st3, d3, hS3⟩ := rk_pop hS2
                      obtain ⟨st4, d4, hS4⟩ := rk_pop hS3
                      obtain ⟨st5, d5, hS5⟩ := rk_pop hS4
                      subst d1 d2 d3 d4 d5
                      have isInt : ∀ (t : rk_AV) (y : Nat) (c0 : Int), en[y]? = some t → rk_cst t = some c0 → ∃ x : Int32, r y = .int x ∧ x.toInt = c0 := by
                        intro t y c0 hy hc0
                        have hv := rk_val hS hy
                        have hi : rk_isI t = true := by
                          obtain ⟨n9, a9, b9⟩ := t
                          rcases n9 with _ | n9
                          · rfl
                          · simp [rk_cst] at hc0
                        obtain ⟨x, ex⟩ := rk_isI_ok hi hv
                        rw [ex] at hv
                        exact ⟨x, ex, rk_cst_ok hc0 hv⟩
                      obtain ⟨xn, en1, en2⟩ := isInt tn n cst htn hcst
                      obtain ⟨xd, ed1, ed2⟩ := isInt tdp dp 0 htdp g1
                      obtain ⟨xs, es1, es2⟩ := isInt tsp sp 0 htsp g2
                      have zd0 : xd = 0 := Int32.toInt_inj.mp ed2
                      have zs0 : xs = 0 := Int32.toInt_inj.mp es2
                      subst zd0 zs0
                      obtain ⟨nn, e1, e2, e3⟩ := rk_nI (x := xn) (by omega)
                      have hcl : xn.toNatClampNeg = nn := by rw [e1]; exact nI_clamp e3
                      have hc0 : (0 : Int32).toNatClampNeg = 0 := rfl
                      obtain ⟨ad, ead, hgd⟩ := rk_val hS hd
                      obtain ⟨ab, eab, hgb⟩ := rk_val hS hbb
                      obtain ⟨q1, hq1, hcd⟩ := rk_typed hw hgd (by rw [g4]; decide)
                      obtain ⟨q0, hq0, hcb⟩ := rk_typed hw hgb (by rw [g5]; decide)
                      unfold rk_cell at hcd hcb
                      generalize hKd : K kd.toNat = kkd at hcd g4 g6
                      generalize hKb : K kb.toNat = kkb at hcb g5 g7
                      obtain ⟨td, nd, t0d, tsd⟩ := kkd
                      obtain ⟨tb, nb, t0b, tsb⟩ := kkb
                      dsimp only at g4 g5 g6 g7
                      subst g4 g5
                      obtain ⟨cA1, gd, hf1, hty1, hr1⟩ := hcd
                      obtain ⟨cA0, gb, hf0, hty0, hr0⟩ := hcb
                      have hq1' := hq1
                      rw [hf1] at hq1'
                      rw [hf0] at hq0
                      rw [en1, ed1, es1, ead, eab]
                      have hcat : ((rest.map r).map fun v => v.category).sum ≤ 8 := by
                        have hc1 : ∀ y ∈ rest, (r y).category = 1 := by
                          intro y hy
                          simp only [rk_wf, Bool.and_eq_true, List.all_eq_true, Nat.blt_eq, Nat.ble_eq] at g11
                          exact rk_has_cat (rk_val hS (List.getElem?_eq_getElem (g11.2.2.1 y (by simp [hy]))))
                        have : ∀ ys : List Nat, (∀ y ∈ ys, (r y).category = 1) → ((ys.map r).map fun v => v.category).sum = ys.length := by
                          intro ys
                          induction ys with
                          | nil => intro _; rfl
                          | cons y ys ih =>
                            intro hy
                            simp only [List.map_cons, List.sum_cons, List.length_cons]
                            rw [ih (fun w hw => hy w (List.mem_cons_of_mem _ hw)), hy y List.mem_cons_self]
                            omega
                        rw [this _ hc1]
                        exact g9
                      have hst5 : st5 = rest.map r := hS5.2.2.2.2.1
                      have hsz : ls.size = nL := hS.2.2.2.1.1
                      refine va_copyi hx hb (hml9.trans hsz.symm) hown hac.1 hac.2.1 hac.2.2.1 hac.2.2.2.1 hK hw.1 hw.2.1 hw.2.2.1 q0 q1 0 0 hq0 hq1' hty0 hty1 rfl (by decide) (by decide) (by
                        intro h0
                        rw [Int32.lt_iff_toInt_lt] at h0
                        have : (0 : Int32).toInt = 0 := rfl
                        omega) (by rw [hc0, hcl]; omega) (by rw [hc0, hcl]; omega) (fun i hi => rfl) hac.2.2.2.2.1 (by rw [hst5]; have := hac.2.2.2.2.2; omega) hdg (fun H1 locs1 hP1 hD1 hS9 => ?_)
                      rw [hc0, hcl] at hP1
                      refine hk _ (List.mem_singleton.mpr rfl) r (va_up f ad (.inl (cA1, nd, .inl (va_cpy gb gd 0 0 nn)))) H1 locs1 ls _ ?_
                      have hcell2 : rk_cell K E tys G (X + (co + 0)) kd.toNat (.inl (cA1, nd, .inl (va_cpy gb gd 0 0 nn))) := by
                        rw [Int.add_zero]
                        unfold rk_cell
                        rw [hKd]
                        refine ⟨cA1, _, rfl, hty1, fun j hj => ?_⟩
                        by_cases hjn : j < nn
                        · rw [pk_cpy_in (Nat.zero_le j) (by omega), Nat.zero_add, Nat.sub_zero]
                          have b1 := hr0 j (by omega)
                          rw [hER _ _ _ _ ht1 j (by omega) (by omega)] at b1
                          rw [hER _ _ _ _ ht2 j (by omega) (by omega)]
                          exact rk_le_ok (by omega) g8 b1
                        · rw [pk_cpy_out (Or.inr (by omega))]
                          exact hr1 j hj
                      have hw1 := rk_w_up (hPf g10) (d := 0) hw hgd (by rw [hKd]; dsimp only; omega) (Int.le_refl 0) hq1 hcell2 hP1 hS9
                      rw [Int.add_zero] at hw1
                      obtain ⟨o1, o2, o3, o4, o5, o6, o7, o8⟩ := hS5
                      refine ⟨o1, fun q hq => ?_, o3, o4, o5, o6, o7, hw1⟩
                      obtain ⟨hq1, hq2⟩ := List.mem_filter.mp hq
                      rw [Nat.blt_eq] at hq2
                      obtain ⟨b1, b2, b3⟩ := o2 q hq1
                      refine ⟨b1, b2, ?_⟩
                      unfold rk_kf at b3 ⊢
                      rw [if_pos hq2] at b3 ⊢
                      by_cases hba : b1 = ad
                      · subst hba
                        rw [hf1] at b3
                        cases b3
                      · rw [va_up_ne _ _ hba]
                        exact b3
                    · cases h
              · cases h
            · cases h
theorem rk_lsw_ok (hx : p.tables.exec = Jvm.exec) (hb : c.code = cc) {F : rk_Fx} {pc len : Nat} {d : Int} {ps : Array (Int × Int)} {S : rk_St} {out : List (Nat × rk_St)} (hdg : decode cc pc = .ok (.lookupswitch d ps, len)) (h : rk_lsw pc d ps S = some out) (hk : ∀ q ∈ out, rk_G p l e R s m args below meth c Q F nE r0 q.1 q.2) : rk_G p l e R s m args below meth c Q F nE r0 pc S := by
  intro r f H locs ls st hS
  obtain ⟨lo, sk, en, kn, fc, co⟩ := S
  rcases sk with _ | ⟨x, sk'⟩
  · simp [rk_lsw] at h
  · simp only [rk_lsw] at h
    obtain ⟨st1, d1, hS1⟩ := rk_pop hS
    subst d1
    split at h
    · cases h
    · rename_i t ht
      split at h
      · cases h
      · rename_i a b hab
        obtain ⟨u, eu, q1, q2⟩ := rk_iv_ok hab (rk_val hS ht)
        split at h
        · rename_i hok
          rw [Bool.and_eq_true, Bool.and_eq_true] at hok
          obtain ⟨g1, g2, g3⟩ := hok
          cases h
          rw [eu]
          rcases rk_lc_mem (pc := pc) (x := x) (S := (lo, sk', en, kn, fc, co)) (d := d) q1 q2 ps.toList with h0 | ⟨h1, h2⟩
          · exact lv_lookup hx hb hdg g3 h0 (rk_tgt_ok g1) (hk _ List.mem_cons_self r f H locs ls _ hS1)
          · refine lv_lookup hx hb hdg g3 rfl (rk_tgt_ok ?_) (hk _ (List.mem_cons_of_mem _ h1) r f H locs ls _ (rk_ref hS1 ?_))
            · exact List.all_eq_true.mp g2 _ h2
            · rw [eu]
              exact ⟨u, rfl, Int.le_refl _, Int.le_refl _⟩
        · cases h
end RKM
end
section
/-! linear forms: measures -/
def rk_lv (r : Nat → Value) : List (Nat × Int) → Int
  | [] => 0
  | q :: l => q.2 * rk_toI (r q.1) + rk_lv r l
def rk_low (en : List rk_AV) : List (Nat × Int) → Option Int
  | [] => some 0
  | q :: l => match rk_low en l with
    | none => none
    | some w => if q.2 = 0 then some w else match en[q.1]? with
      | some (0, a, b) => some ((if 0 ≤ q.2 then q.2 * a else q.2 * b) + w)
      | _ => none
theorem rk_low_ok {G : Nat → Option Nat} {X : Int} {en : List rk_AV} {r : Nat → Value} (h : ∀ y t, en[y]? = some t → rk_has G X t (r y)) : ∀ (l : List (Nat × Int)) (w : Int), rk_low en l = some w → w ≤ rk_lv r l
  | [], w, hw => by cases hw; exact Int.le_refl 0
  | q :: l, w, hw => by
    unfold rk_low at hw
    split at hw
    · cases hw
    · rename_i w1 h1
      have ih := rk_low_ok h l w1 h1
      unfold rk_lv
      split at hw
      · rename_i h0
        cases hw
        rw [h0, Int.zero_mul]
        omega
      · split at hw
        · rename_i a b ht
          cases hw
          obtain ⟨x, ex, p1, p2⟩ := h _ _ ht
          rw [ex]
          simp only [rk_toI]
          split
          · rename_i hq
            have := Int.mul_le_mul_of_nonneg_left p1 hq
            omega
          · rename_i hq
            have := Int.mul_le_mul_of_nonpos_left (by omega : q.2 ≤ 0) p2
            omega
        · cases hw
def rk_ins (y : Nat) (c : Int) : List (Nat × Int) → List (Nat × Int)
  | [] => [(y, c)]
  | q :: l => if Nat.beq q.1 y then (y, q.2 + c) :: l else q :: rk_ins y c l
theorem rk_ins_ok {r : Nat → Value} {y : Nat} {c : Int} : ∀ l : List (Nat × Int), rk_lv r (rk_ins y c l) = c * rk_toI (r y) + rk_lv r l
  | [] => by simp [rk_ins, rk_lv]
  | q :: l => by
    unfold rk_ins
    split
    · rename_i hq
      rw [Nat.beq_eq] at hq
      simp only [rk_lv]
      rw [hq, Int.add_mul]
      omega
    · simp only [rk_lv]
      rw [rk_ins_ok l]
      omega
def rk_nrm (fc : List (Nat × Nat × Nat × Int)) : Nat → Nat → Nat × Int
  | 0, y => (y, 0)
  | n + 1, y => match rk_df y fc with
    | none => (y, 0)
    | some (x, c) => ((rk_nrm fc n x).1, (rk_nrm fc n x).2 + c)
theorem rk_nrm_ok {r : Nat → Value} {fc : List (Nat × Nat × Nat × Int)} (hf : ∀ q ∈ fc, rk_fact r q) : ∀ (n y : Nat), rk_toI (r y) = rk_toI (r (rk_nrm fc n y).1) + (rk_nrm fc n y).2
  | 0, y => by simp [rk_nrm]
  | n + 1, y => by
    unfold rk_nrm
    split
    · simp
    · rename_i x c hd
      have h1 := rk_df_ok fc hf hd
      have h2 := rk_nrm_ok hf n x
      dsimp only
      omega
/-- a form over locals is taken away -/
def rk_sb (lo : List (Nat × Nat)) (fc : List (Nat × Nat × Nat × Int)) : List (Nat × Int) → List (Nat × Int) → Int → Option (List (Nat × Int) × Int)
  | [], l, k => some (l, k)
  | q :: m, l, k => match rk_lk lo q.1 with
    | none => none
    | some y => rk_sb lo fc m (rk_ins (rk_nrm fc 4 y).1 (-q.2) l) (k - q.2 * (rk_nrm fc 4 y).2)
theorem rk_sb_ok {r r1 : Nat → Value} {lo : List (Nat × Nat)} {fc : List (Nat × Nat × Nat × Int)} (hf : ∀ q ∈ fc, rk_fact r q) : ∀ (m l l2 : List (Nat × Int)) (k k2 : Int), (∀ q ∈ m, ∀ y, rk_lk lo q.1 = some y → r1 q.1 = r y) → rk_sb lo fc m l k = some (l2, k2) → rk_lv r l2 + k2 = rk_lv r l + k - rk_lv r1 m
  | [], l, l2, k, k2, _, h => by
    cases h
    simp [rk_lv]
  | q :: m, l, l2, k, k2, hr, h => by
    unfold rk_sb at h
    split at h
    · cases h
    · rename_i y hy
      have ih := rk_sb_ok hf m _ l2 _ k2 (fun p hp => hr p (List.mem_cons_of_mem _ hp)) h
      rw [rk_ins_ok] at ih
      have h1 := rk_nrm_ok hf 4 y
      rw [ih]
      simp only [rk_lv]
      rw [hr q List.mem_cons_self _ hy, h1, Int.mul_add, Int.neg_mul]
      omega
/-- a cut: its place; what its locals, then its known fields may be; those fields (a local, a place); a measure (the end); another (the counters) -/
abbrev rk_Cut : Type := Nat × List rk_AV × List (Nat × Nat) × (Int × List (Nat × Int)) × (Int × List (Nat × Int))
def rk_loc : Nat → List rk_AV → List (Nat × Nat)
  | _, [] => []
  | i, t :: l => if Nat.blt t.1 4 then (i, i) :: rk_loc (i + 1) l else rk_loc (i + 1) l
def rk_kn0 : Nat → List (Nat × Nat) → List (Nat × Nat × Nat)
  | _, [] => []
  | q, z :: l => (z.1, z.2, q) :: rk_kn0 (q + 1) l
def rk_S0 (nT : Nat) (ts : List rk_AV) (kf : List (Nat × Nat)) : rk_St := (rk_loc 0 (ts.take nT), [], ts, rk_kn0 nT kf, [], 0)
def rk_nT (B : rk_Cut) : Nat := B.2.1.length - B.2.2.1.length
def rk_xt (lo : List (Nat × Nat)) (kn : List (Nat × Nat × Nat)) : Nat → List (Nat × Nat) → List (Nat × Nat)
  | _, [] => []
  | q, z :: l => match rk_lk lo z.1 with
    | none => rk_xt lo kn (q + 1) l
    | some y => match rk_kn y z.2 kn with
      | none => rk_xt lo kn (q + 1) l
      | some v => (q, v) :: rk_xt lo kn (q + 1) l
def rk_fit2 (lo : List (Nat × Nat)) (en : List rk_AV) : Nat → List rk_AV → Bool
  | _, [] => true
  | i, t :: l => (if Nat.blt t.1 4 then (match rk_lk lo i with
      | none => false
      | some y => match en[y]? with
        | none => false
        | some u => rk_le u t) else true) && rk_fit2 lo en (i + 1) l
def rk_ms (lo : List (Nat × Nat)) (fc : List (Nat × Nat × Nat × Int)) (en : List rk_AV) (A B : Int × List (Nat × Int)) (tk : Int) : Bool := match rk_sb lo fc B.2 A.2 (A.1 - B.1 - tk) with
  | none => false
  | some (l2, k2) => match rk_low en l2 with
    | none => false
    | some w => decide (0 ≤ w + k2)
/-- the state at a cut is what the cut says, and its measures are less -/
def rk_ent (tA : Option (Int × List (Nat × Int))) (cA : Int) (lA : List (Nat × Int)) (B : rk_Cut) (S : rk_St) : Bool := match S with
  | (lo, sk, en, kn, fc, co) => match sk with
    | _ :: _ => false
    | [] => rk_fit2 (lo ++ rk_xt lo kn (rk_nT B) B.2.2.1) en 0 B.2.1 && (rk_ms (lo ++ rk_xt lo kn (rk_nT B) B.2.2.1) fc en (cA, lA) B.2.2.2.2 co && (match tA with
      | none => true
      | some a => rk_ms (lo ++ rk_xt lo kn (rk_nT B) B.2.2.1) fc en a B.2.2.2.1 1))
def rk_fc (cs : List rk_Cut) (pc : Nat) : Option rk_Cut := match cs with
  | [] => none
  | c :: l => if Nat.beq c.1 pc then some c else rk_fc l pc
theorem rk_fc_ok {pc : Nat} {B : rk_Cut} : ∀ cs : List rk_Cut, rk_fc cs pc = some B → B ∈ cs ∧ B.1 = pc
  | [], h => by cases h
  | c :: l, h => by
    unfold rk_fc at h
    split at h
    · rename_i hc
      rw [Nat.beq_eq] at hc
      cases h
      exact ⟨List.mem_cons_self, hc⟩
    · obtain ⟨h1, h2⟩ := rk_fc_ok l h
      exact ⟨List.mem_cons_of_mem _ h1, h2⟩
def rk_aOK (eN : Nat) (en : List rk_AV) (t : rk_AV) (a : rk_Alt) : Bool := !(Nat.beq a.1.1 9) && (rk_le t a.1 && a.2.all (fun q => Nat.blt q.1 eN && (match en[q.1]? with
  | none => false
  | some u => rk_le u q.2)))
def rk_vOK (eN : Nat) (en : List rk_AV) (a : rk_Alt) : Bool := Nat.beq a.1.1 9 && a.2.all (fun q => Nat.blt q.1 eN && (match en[q.1]? with
  | none => false
  | some u => rk_le u q.2))
/-- what a method is: its kind of answer (0 none, 1 int, 2 boolean, 3 reference), its alternatives, does it change nothing -/
def rk_rt (eN : Nat) (rk : Nat) (alts : List rk_Alt) (cA : Int) (lA : List (Nat × Int)) (ins : Instr) (S : rk_St) : Bool := match S with
  | (_, sk, en, _, _, co) => (match rk_low en lA with
      | none => false
      | some w => decide (co ≤ cA + w)) && (match ins with
    | .return_ => Nat.beq rk 0 && (sk.isEmpty && alts.any (rk_vOK eN en))
    | .ireturn => (match sk with
      | [y] => (match en[y]? with
        | none => false
        | some t => (Nat.beq rk 1 && rk_isI t || Nat.beq rk 2 && rk_le t (0, 0, 1)) && alts.any (rk_aOK eN en t))
      | _ => false)
    | .areturn => (match sk with
      | [y] => (match en[y]? with
        | none => false
        | some t => Nat.beq rk 3 && (rk_isR t && alts.any (rk_aOK eN en t)))
      | _ => false)
    | _ => false)
abbrev rk_Pg : Type := ByteArray × Nat × rk_Fl × rk_Ml × (Nat → Option Int32) × (Nat → Option Nat) × (Nat → Nat)
def rk_cap (cA : Int) (lA : List (Nat × Int)) (en : List rk_AV) (co : Int) : Bool := match rk_low en lA with
  | none => false
  | some w => decide (co ≤ cA + w)
def rk_step (cap : List rk_AV → Int → Bool) (K : Nat → rk_KD) (ER : rk_Er) (ap : Nat × Nat) (ctr : rk_Ctr) (P : rk_Pg) (pm : Bool) (nE pc : Nat) (ins : Instr) (S : rk_St) : rk_Sc := match ins with
  | .getfield _ => rk_s2 pm nE K ER P.2.2.1 ap pc ins S
  | .putfield _ => rk_s2 pm nE K ER P.2.2.1 ap pc ins S
  | .arraylength => rk_s2 pm nE K ER P.2.2.1 ap pc ins S
  | .iaload => rk_s2 pm nE K ER P.2.2.1 ap pc ins S
  | .iastore => rk_s2 pm nE K ER P.2.2.1 ap pc ins S
  | .aaload => rk_s2 pm nE K ER P.2.2.1 ap pc ins S
  | .aastore => rk_s2 pm nE K ER P.2.2.1 ap pc ins S
  | .invokevirtual i => rk_inv cap pm nE pc K P.2.2.2.1 ctr i true S
  | .invokestatic i => (match P.2.2.2.2.2.2 i with
    | 1 => rk_acp pm pc K ER S
    | 2 => rk_mmn pc S
    | _ => rk_inv cap pm nE pc K P.2.2.2.1 ctr i false S)
  | .lookupswitch d ps => rk_lsw pc d ps S
  | .ldc i => (match P.2.2.2.2.1 i with
    | some _ => rk_s1 nE P.2.1 P.2.2.2.2.1 pc (.ldc i) S
    | none => rk_ldS nE pc K P.2.2.2.2.2.1 i S)
  | _ => rk_s1 nE P.2.1 P.2.2.2.2.1 pc ins S
def rk_isRet (ins : Instr) : Bool := match ins with
  | .ireturn => true
  | .areturn => true
  | .return_ => true
  | _ => false
def rk_go (K : Nat → rk_KD) (ER : rk_Er) (ap : Nat × Nat) (ctr : rk_Ctr) (P : rk_Pg) (pm : Bool) (rk : Nat) (alts : List rk_Alt) (cs : List rk_Cut) (eN : Nat) (tA : Option (Int × List (Nat × Int))) (cA : Int) (lA : List (Nat × Int)) (nE : Nat) : Nat → Nat → rk_St → Bool
  | 0, _, _ => false
  | n + 1, pc, S => match decode P.1 pc with
    | .error _ => false
    | .ok (ins, len) => rk_lenOk ins len && (if rk_isRet ins then rk_rt eN rk alts cA lA ins S else match rk_step (rk_cap cA lA) K ER ap ctr P pm nE pc ins S with
      | none => false
      | some out => out.all (fun q => match rk_fc cs q.1 with
        | some B => rk_ent tA cA lA B q.2
        | none => rk_go K ER ap ctr P pm rk alts cs eN tA cA lA nE n q.1 q.2))
def rk_tOk (ts : List rk_AV) : Bool := ts.all (fun t => Nat.blt t.1 5)
def rk_okL (ts : List rk_AV) (c : Int) (l : List (Nat × Int)) : Bool := l.all (fun q => Nat.blt q.1 ts.length && (match ts[q.1]? with
  | some (0, _, _) => true
  | _ => false)) && (match rk_low ts l with
  | none => false
  | some w => decide (0 ≤ c + w))
def rk_okK (nL nT : Nat) (ts : List rk_AV) (kf : List (Nat × Nat)) : Bool := (kf.isEmpty || Nat.beq nT nL) && (kf.all (fun z => Nat.blt z.1 nT && (Nat.blt z.2 1000000 && (match ts[z.1]? with
  | some t => Nat.blt t.1 4
  | none => false))) && (ts.drop nT).all (fun t => Nat.blt t.1 4))
/-- a method's certificate holds -/
def rk_chk (K : Nat → rk_KD) (ER : rk_Er) (ap : Nat × Nat) (ctr : rk_Ctr) (P : rk_Pg) (pm : Bool) (rk : Nat) (avs : List rk_AV) (alts : List rk_Alt) (C : Int) (cs : List rk_Cut) (fuel : Nat) : Bool :=
  Nat.ble avs.length P.2.1 && (decide (0 ≤ C) && (rk_tOk avs && (rk_go K ER ap ctr P pm rk alts cs avs.length none C [] avs.length fuel 0 (rk_S0 avs.length avs []) &&
    cs.all (fun B => rk_tOk B.2.1 && (Nat.ble (rk_nT B) P.2.1 && (Nat.ble B.2.2.1.length B.2.1.length && (rk_okK P.2.1 (rk_nT B) B.2.1 B.2.2.1 && (rk_okL B.2.1 B.2.2.2.1.1 B.2.2.2.1.2 && (rk_okL B.2.1 B.2.2.2.2.1 B.2.2.2.2.2 &&
      rk_go K ER ap ctr P pm rk alts cs 0 (some B.2.2.2.1) B.2.2.2.2.1 B.2.2.2.2.2 B.2.1.length fuel B.1 (rk_S0 (rk_nT B) B.2.1 B.2.2.1))))))))))
end
section
theorem rk_loc_ok {q : Nat × Nat} : ∀ (ts : List rk_AV) (k : Nat), q ∈ rk_loc k ts → ∃ (i : Nat) (t : rk_AV), q = (k + i, k + i) ∧ ts[i]? = some t ∧ t.1 < 4
  | [], k, h => by cases h
  | t :: l, k, h => by
    unfold rk_loc at h
    split at h
    · rename_i ht
      rw [Nat.blt_eq] at ht
      rcases List.mem_cons.mp h with rfl | h
      · exact ⟨0, t, rfl, rfl, ht⟩
      · obtain ⟨i, u, e1, e2, e3⟩ := rk_loc_ok l (k + 1) h
        exact ⟨i + 1, u, by rw [e1]; simp only [Prod.mk.injEq]; omega, by rw [List.getElem?_cons_succ]; exact e2, e3⟩
    · obtain ⟨i, u, e1, e2, e3⟩ := rk_loc_ok l (k + 1) h
      exact ⟨i + 1, u, by rw [e1]; simp only [Prod.mk.injEq]; omega, by rw [List.getElem?_cons_succ]; exact e2, e3⟩
theorem rk_fit2_ok {lo : List (Nat × Nat)} {en : List rk_AV} : ∀ (ts : List rk_AV) (k : Nat), rk_fit2 lo en k ts = true → ∀ (i : Nat) (t : rk_AV), ts[i]? = some t → t.1 < 4 → ∃ y u, rk_lk lo (k + i) = some y ∧ en[y]? = some u ∧ rk_le u t = true
  | [], k, _, i, t, h, _ => by simp at h
  | t0 :: l, k, hf, i, t, h, ht => by
    unfold rk_fit2 at hf
    rw [Bool.and_eq_true] at hf
    rcases i with _ | i
    · simp only [List.getElem?_cons_zero, Option.some.injEq] at h
      subst h
      have h1 := hf.1
      rw [if_pos (by rw [Nat.blt_eq]; exact ht)] at h1
      split at h1
      · cases h1
      · rename_i y hy
        split at h1
        · cases h1
        · rename_i u hu
          exact ⟨y, u, hy, hu, h1⟩
    · rw [List.getElem?_cons_succ] at h
      obtain ⟨y, u, e1, e2, e3⟩ := rk_fit2_ok l (k + 1) hf.2 i t h ht
      exact ⟨y, u, by rw [← e1]; congr 1; omega, e2, e3⟩
theorem rk_lv_eq {r r1 : Nat → Value} {n : Nat} (h : ∀ y, y < n → r y = r1 y) : ∀ l : List (Nat × Int), (∀ q ∈ l, q.1 < n) → rk_lv r l = rk_lv r1 l
  | [], _ => rfl
  | q :: l, hl => by
    unfold rk_lv
    rw [rk_lv_eq h l (fun p hp => hl p (List.mem_cons_of_mem _ hp)), h q.1 (hl q List.mem_cons_self)]
theorem rk_args_in {w : Value} : ∀ (vs : List Value) (k i : Nat), (∀ v ∈ vs, v.category = 1) → vs[i]? = some w → (k + i, w) ∈ lv_args k vs
  | [], k, i, _, h => by simp at h
  | v :: vs, k, i, hc, h => by
    unfold lv_args
    rw [if_neg (by rw [hc v List.mem_cons_self]; omega)]
    rcases i with _ | i
    · simp only [List.getElem?_cons_zero, Option.some.injEq] at h
      subst h
      exact List.mem_cons_self
    · rw [List.getElem?_cons_succ] at h
      have := rk_args_in vs (k + 1) i (fun u hu => hc u (List.mem_cons_of_mem _ hu)) h
      refine List.mem_cons_of_mem _ ?_
      rw [show k + (i + 1) = k + 1 + i by omega]
      exact this
theorem rk_sl_len : ∀ vs : List Value, (∀ v ∈ vs, v.category = 1) → (lg_sl vs).length = vs.length
  | [], _ => rfl
  | v :: vs, hc => by
    have ih := rk_sl_len vs (fun u hu => hc u (List.mem_cons_of_mem _ hu))
    unfold lg_sl at ih ⊢
    rw [List.flatMap_cons, List.length_append, ih, if_neg (by rw [hc v List.mem_cons_self]; omega)]
    simp only [List.length_cons, List.length_nil]
    omega
section RKD
variable {p : Program} {l : Launch} {e : Env} {R : Room} {s : State} {m : MethodId} {args : Array Value} {below : List Frame} {meth : Method} {c : Code} {Q : State → Prop} {nE : Nat} {r0 : Nat → Value}
variable {Pf : (Nat → va_E) → Prop} {K : Nat → rk_KD} {E : Nat → Nat → rk_AV} {tys : List (ClassId × FieldType)} {D : va_G} {A : Nat → Prop} {H0 : Heap} {G : Nat → Option Nat} {L : List Nat} {nL : Nat} {X : Int}
theorem rk_go_ok {pm : Bool} (hPf : pm = false → ∀ f, Pf f) {P : rk_Pg} (hx : p.tables.exec = Jvm.exec) (hb : c.code = P.1) (hml9 : c.maxLocals = nL) (hnL : P.2.1 = nL) {own : String} (hown : s.vm.findClass own = some m.cls) {Ts : List Jvm.Cond} (hts : ∀ w ∈ Ts, w.before args s = true) (htb : ∀ w ∈ rk_tbl, w ∈ Ts) (hK : va_K D vwCl tys s) {NU : State → Prop} (hNs : NU s) (hNw : ∀ (U : State) (locs : List Loc), va_S A H0 U.heap locs → s.WarmedH U.vm → NU U) (hNc : ∀ u U : State, u.vm = U.vm → u.heap = U.heap → NU u → NU U)
    (hfl : rk_FlOk s args Ts own P.2.2.1) {ER : rk_Er} (hER : ∀ k a b t, ER k a b = some t → ∀ j : Nat, a ≤ (j : Int) → (j : Int) ≤ b → E k j = t) {ap : Nat × Nat} (hap : ∀ cA C, tys[ap.1]? = some (cA, .object C) → ∃ q, vwCl[ap.2]? = some q ∧ q.1 = C)
    {base : Nat} {mt : Nat → rk_Mt} (hml : rk_MlOk s args R own mt P.2.2.2.1) {ctr : rk_Ctr} (hct : ∀ z avs alts C pu, ctr z avs = some (alts, C, pu) → rk_Met base l K E tys D NU (mt z) avs alts C pu) (hBL : ∀ a ∈ L, base ≤ a) (hB0 : base ≤ H0.size) (hcs : ∀ i v, P.2.2.2.2.1 i = some v → (Jvm.Cond.constant own i v).before args s = true) (hss : ∀ i k, P.2.2.2.2.2.1 i = some k → ∃ (tx : String) (a : Nat), vk_R own i tx a s ∧ (E k 0).2.1 = (a : Int)) (hac : ∀ idx, (P.2.2.2.2.2.2 idx = 1 → (Jvm.Cond.methodLink own idx arraycopyName).before args s = true ∧ (Jvm.Cond.native arraycopyName).before args s = true ∧ (Jvm.Cond.static arraycopyName).before args s = true ∧ (Jvm.Cond.initialized "java/lang/System").before args s = true ∧ 1 ≤ R.frames ∧ 8 + (nativeFrameWords "java/lang/System" "arraycopy" 5 + 11) ≤ R.locals) ∧ (P.2.2.2.2.2.2 idx = 2 → (Jvm.Cond.methodLink own idx Lib.Math.min.name).before args s = true ∧ (Jvm.Cond.static Lib.Math.min.name).before args s = true ∧ (Jvm.Cond.initialized "java/lang/Math").before args s = true ∧ (Jvm.Cond.code Lib.Math.min.name Lib.Math.min.code 2 (some .int)).before args s = true ∧ 1 ≤ R.frames ∧ 8 + 13 ≤ R.locals)) (hA : ∀ q, H0.size ≤ q → A q) (hX : 0 ≤ X) (hX2 : X ≤ rk_top) {rk : Nat} {alts : List rk_Alt} {cs : List rk_Cut} {eN : Nat} {tA : Option (Int × List (Nat × Int))} {cA : Int} {lA : List (Nat × Int)} (hcap : ∀ (en : List rk_AV) (co X' : Int) (r : Nat → Value), (∀ y, y < nE → r y = r0 y) → (∀ y t, en[y]? = some t → rk_has G X' t (r y)) → rk_cap cA lA en co = true → X + co ≤ rk_top)
    (Hret : ∀ (pc : Nat) (ins : Instr) (S : rk_St), decode P.1 pc = .ok (ins, 1) → rk_rt eN rk alts cA lA ins S = true → rk_G p l e R s m args below meth c Q (Pf, K, E, tys, D, A, H0, G, L, nL, X) nE r0 pc S)
    (Hcut : ∀ (B : rk_Cut) (S : rk_St), B ∈ cs → rk_ent tA cA lA B S = true → rk_G p l e R s m args below meth c Q (Pf, K, E, tys, D, A, H0, G, L, nL, X) nE r0 B.1 S) :
    ∀ (n pc : Nat) (S : rk_St), rk_go K ER ap ctr P pm rk alts cs eN tA cA lA nE n pc S = true → rk_G p l e R s m args below meth c Q (Pf, K, E, tys, D, A, H0, G, L, nL, X) nE r0 pc S
  | 0, _, _, h => by cases h
  | n + 1, pc, S, h => by
    unfold rk_go at h
    split at h
    · cases h
    · rename_i ins len hdg
      rw [Bool.and_eq_true] at h
      obtain ⟨hlen, h⟩ := h
      split at h
      · rename_i hret
        have hl1 : len = 1 := by
          cases ins <;> first | (simp [rk_isRet] at hret; done) | exact Nat.beq_eq ▸ hlen
        subst hl1
        exact Hret pc ins S hdg h
      · split at h
        · cases h
        · rename_i out hout
          have hk : ∀ q ∈ out, rk_G p l e R s m args below meth c Q (Pf, K, E, tys, D, A, H0, G, L, nL, X) nE r0 q.1 q.2 := by
            intro q hq
            have h1 := List.all_eq_true.mp h q hq
            split at h1
            · rename_i B hB
              obtain ⟨b1, b2⟩ := rk_fc_ok cs hB
              rw [← b2]
              exact Hcut B q.2 b1 h1
            · exact rk_go_ok hPf hx hb hml9 hnL hown hts htb hK hNs hNw hNc hfl hER hap hml hct hBL hB0 hcs hss hac hA hX hX2 hcap Hret Hcut n q.1 q.2 h1
          have hX3 : X + 110000000 ≤ 2147483647 := by
            have : rk_top = 2000000000 := rfl
            omega
          subst hnL
          have kone : Nat.beq len 3 = true → len = 3 := fun h => Nat.beq_eq ▸ h
          unfold rk_step at hout
          split at hout
          · exact rk_s2_ok hPf hx hb hown hts hK hfl hER hap hX hdg hlen hout hk
          · exact rk_s2_ok hPf hx hb hown hts hK hfl hER hap hX hdg hlen hout hk
          · exact rk_s2_ok hPf hx hb hown hts hK hfl hER hap hX hdg hlen hout hk
          · exact rk_s2_ok hPf hx hb hown hts hK hfl hER hap hX hdg hlen hout hk
          · exact rk_s2_ok hPf hx hb hown hts hK hfl hER hap hX hdg hlen hout hk
          · exact rk_s2_ok hPf hx hb hown hts hK hfl hER hap hX hdg hlen hout hk
          · exact rk_s2_ok hPf hx hb hown hts hK hfl hER hap hX hdg hlen hout hk
          · have := kone hlen
            subst this
            exact rk_inv_ok hcap hPf hx hb hml9 hown hts htb hK hNs hNw hNc hml hct hBL hB0 hA hX (virt := true) hdg hout hk
          · have := kone hlen
            subst this
            split at hout
            · rename_i hi
              exact rk_acp_ok hPf hx hb hml9 hown hK hER hX ((hac _).1 hi) hdg hout hk
            · rename_i hi
              exact rk_mmn_ok hx hb hml9 hown ((hac _).2 hi) hdg hout hk
            · exact rk_inv_ok hcap hPf hx hb hml9 hown hts htb hK hNs hNw hNc hml hct hBL hB0 hA hX (virt := false) hdg hout hk
          · exact rk_lsw_ok hx hb hdg hout hk
          · rename_i i _ _ _
            split at hout
            · exact rk_s1_ok hx hb hown hcs hX3 hdg hlen hout hk
            · have hl2 : len = 2 := Nat.beq_eq ▸ hlen
              subst hl2
              exact rk_ldS_ok hx hb hown hss hdg hout hk
          · exact rk_s1_ok hx hb hown hcs hX3 hdg hlen hout hk
end RKD
theorem rk_ms_ok {G : Nat → Option Nat} {X : Int} {r r1 : Nat → Value} {lo : List (Nat × Nat)} {fc : List (Nat × Nat × Nat × Int)} {en : List rk_AV} {A B : Int × List (Nat × Int)} {tk : Int} (h : rk_ms lo fc en A B tk = true) (hf : ∀ q ∈ fc, rk_fact r q) (he : ∀ y t, en[y]? = some t → rk_has G X t (r y)) (hr : ∀ q ∈ B.2, ∀ y, rk_lk lo q.1 = some y → r1 q.1 = r y) : B.1 + rk_lv r1 B.2 + tk ≤ A.1 + rk_lv r A.2 := by
  unfold rk_ms at h
  split at h
  · cases h
  · rename_i l2 k2 hs2
    split at h
    · cases h
    · rename_i w hw9
      rw [decide_eq_true_eq] at h
      have h1 := rk_sb_ok (r1 := r1) hf B.2 A.2 l2 _ k2 hr hs2
      have h2 := rk_low_ok he l2 w hw9
      omega
theorem rk_okL_ok {ts : List rk_AV} {c : Int} {l : List (Nat × Int)} (h : rk_okL ts c l = true) : (∀ q ∈ l, q.1 < ts.length ∧ ∃ a b, ts[q.1]? = some (0, a, b)) ∧ ∀ (G : Nat → Option Nat) (X : Int) (r : Nat → Value), (∀ y t, ts[y]? = some t → rk_has G X t (r y)) → 0 ≤ c + rk_lv r l := by
  unfold rk_okL at h
  rw [Bool.and_eq_true, List.all_eq_true] at h
  obtain ⟨h1, h2⟩ := h
  refine ⟨fun q hq => ?_, fun G X r hr => ?_⟩
  · have := h1 q hq
    rw [Bool.and_eq_true, Nat.blt_eq] at this
    refine ⟨this.1, ?_⟩
    have h3 := this.2
    split at h3
    · rename_i a b ht
      exact ⟨a, b, ht⟩
    · cases h3
  · split at h2
    · cases h2
    · rename_i w hw
      rw [decide_eq_true_eq] at h2
      have := rk_low_ok hr l w hw
      omega
theorem rk_xt_ok {lo : List (Nat × Nat)} {kn : List (Nat × Nat × Nat)} {i v : Nat} : ∀ (kf : List (Nat × Nat)) (k : Nat), (i, v) ∈ rk_xt lo kn k kf → ∃ (q : Nat) (z : Nat × Nat) (y : Nat), kf[q]? = some z ∧ i = k + q ∧ rk_lk lo z.1 = some y ∧ rk_kn y z.2 kn = some v
  | [], k, h => by cases h
  | z :: l, k, h => by
    unfold rk_xt at h
    have up : (∃ (q : Nat) (z' : Nat × Nat) (y : Nat), l[q]? = some z' ∧ i = (k + 1) + q ∧ rk_lk lo z'.1 = some y ∧ rk_kn y z'.2 kn = some v) → ∃ (q : Nat) (z' : Nat × Nat) (y : Nat), (z :: l)[q]? = some z' ∧ i = k + q ∧ rk_lk lo z'.1 = some y ∧ rk_kn y z'.2 kn = some v := by
      intro ⟨q, z', y, h1, h2, h3, h4⟩
      exact ⟨q + 1, z', y, by rw [List.getElem?_cons_succ]; exact h1, by omega, h3, h4⟩
    split at h
    · exact up (rk_xt_ok l (k + 1) h)
    · rename_i y hy
      split at h
      · exact up (rk_xt_ok l (k + 1) h)
      · rename_i v' hv
        rcases List.mem_cons.mp h with h | h
        · cases h
          exact ⟨0, z, y, rfl, rfl, hy, hv⟩
        · exact up (rk_xt_ok l (k + 1) h)
theorem rk_kn0_ok {w : Nat × Nat × Nat} : ∀ (kf : List (Nat × Nat)) (k : Nat), w ∈ rk_kn0 k kf → ∃ (q : Nat) (z : Nat × Nat), kf[q]? = some z ∧ w = (z.1, z.2, k + q)
  | [], k, h => by cases h
  | z :: l, k, h => by
    unfold rk_kn0 at h
    rcases List.mem_cons.mp h with h | h
    · exact ⟨0, z, rfl, h⟩
    · obtain ⟨q, z', h1, h2⟩ := rk_kn0_ok l (k + 1) h
      exact ⟨q + 1, z', by rw [List.getElem?_cons_succ]; exact h1, by rw [h2]; simp only [Prod.mk.injEq, true_and]; omega⟩
theorem rk_lk_app {i y : Nat} {xs : List (Nat × Nat)} : ∀ lo : List (Nat × Nat), rk_lk lo i = some y → rk_lk (lo ++ xs) i = some y
  | [], h => by cases h
  | q :: l, h => by
    rw [List.cons_append]
    unfold rk_lk at h ⊢
    split
    · rename_i hq
      rw [if_pos hq] at h
      exact h
    · rename_i hq
      rw [if_neg hq] at h
      exact rk_lk_app l h
end
section
def rk_retOk (rk : Nat) (ret : Option FieldType) : Prop := (rk = 0 → ret = none) ∧ (rk = 1 → ret = some .int) ∧ (rk = 2 → ret = some .boolean) ∧ (rk = 3 → ∃ rt, ret = some rt ∧ ((∃ n, rt = .object n) ∨ ∃ t, rt = .array t))
set_option maxHeartbeats 1000000 in
theorem rk_chk_ok {base : Nat} {l : Launch} {K : Nat → rk_KD} {E : Nat → Nat → rk_AV} {tys : List (ClassId × FieldType)} {D : va_G} {NU : State → Prop} {ER : rk_Er} (hER : ∀ k a b t, ER k a b = some t → ∀ j : Nat, a ≤ (j : Int) → (j : Int) ≤ b → E k j = t) {ap : Nat × Nat} (hap : ∀ cA C, tys[ap.1]? = some (cA, .object C) → ∃ q, vwCl[ap.2]? = some q ∧ q.1 = C) (hNw : ∀ (s U : State) (A : Nat → Prop) (locs : List Loc), (∀ q, A q → base ≤ q) → va_S A s.heap U.heap locs → s.WarmedH U.vm → NU s → NU U) (hNc : ∀ u U : State, u.vm = U.vm → u.heap = U.heap → NU u → NU U)
    {mt : Nat → rk_Mt} {ctr : rk_Ctr} (hct : ∀ z avs alts C pu, ctr z avs = some (alts, C, pu) → rk_Met base l K E tys D NU (mt z) avs alts C pu) {M : rk_Mt} {P : rk_Pg} (hP1 : P.1 = M.2.1) (hP2 : P.2.1 = M.2.2.1) (hplain : plainName M.1.cls = true)
    (hfl : ∀ (s : State) (args : Array Value), (∀ w ∈ rk_ws M, w.before args s = true) → NU s → rk_FlOk s args (rk_ws M) M.1.cls P.2.2.1) (hml : ∀ (s : State) (args : Array Value), (∀ w ∈ rk_ws M, w.before args s = true) → NU s → rk_MlOk s args { frames := M.2.2.2.2.1, cells := 0, slots := 0, locals := M.2.2.2.2.2 } M.1.cls mt P.2.2.2.1) (hcs : ∀ (s : State) (args : Array Value), (∀ w ∈ rk_ws M, w.before args s = true) → ∀ i v, P.2.2.2.2.1 i = some v → (Jvm.Cond.constant M.1.cls i v).before args s = true) (hss : ∀ (s : State), NU s → ∀ i k, P.2.2.2.2.2.1 i = some k → ∃ (tx : String) (a : Nat), vk_R M.1.cls i tx a s ∧ (E k 0).2.1 = (a : Int))
    (hac : ∀ (s : State) (args : Array Value), (∀ w ∈ rk_ws M, w.before args s = true) → ∀ idx, (P.2.2.2.2.2.2 idx = 1 → (Jvm.Cond.methodLink M.1.cls idx arraycopyName).before args s = true ∧ (Jvm.Cond.native arraycopyName).before args s = true ∧ (Jvm.Cond.static arraycopyName).before args s = true ∧ (Jvm.Cond.initialized "java/lang/System").before args s = true ∧ 1 ≤ M.2.2.2.2.1 ∧ 8 + (nativeFrameWords "java/lang/System" "arraycopy" 5 + 11) ≤ M.2.2.2.2.2) ∧ (P.2.2.2.2.2.2 idx = 2 → (Jvm.Cond.methodLink M.1.cls idx Lib.Math.min.name).before args s = true ∧ (Jvm.Cond.static Lib.Math.min.name).before args s = true ∧ (Jvm.Cond.initialized "java/lang/Math").before args s = true ∧ (Jvm.Cond.code Lib.Math.min.name Lib.Math.min.code 2 (some .int)).before args s = true ∧ 1 ≤ M.2.2.2.2.1 ∧ 8 + 13 ≤ M.2.2.2.2.2))
    {pm : Bool} {rk : Nat} (hrt : rk_retOk rk M.2.2.2.1) {avs : List rk_AV} {alts : List rk_Alt} {C : Int} {cs : List rk_Cut} {fuel : Nat} (h : rk_chk K ER ap ctr P pm rk avs alts C cs fuel = true) : rk_Met base l K E tys D NU M avs alts C pm := by
  intro G X L f av sz hX hXC hall hTY hBL hBs
  unfold rk_chk at h
  simp only [Bool.and_eq_true, Nat.ble_eq, decide_eq_true_eq] at h
  obtain ⟨w1, w2, w3, w4, w5⟩ := h
  refine Met.ofW (cc := M.2.1) (maxL := M.2.2.1) (ret := M.2.2.2.1) hplain rfl ?_
  intro p e s m args below meth c s₁ B hml0 hv
  obtain ⟨rfl, hsz, hP, hK, hD0, hN⟩ := hv
  have hx := B.exec
  have hb := B.bytes
  have hr := B.returns
  have hts := atoms_spec (ws := rk_ws M) B.pre
  have hown : s.vm.findClass M.1.cls = some m.cls := findClass_of_methodNamed B.named
  have hlocks := B.notSynchronized
  subst hsz
  have hD := hD0.self (sz := s.heap.size)
  generalize hAe : va_A (va_pl L f) s.heap.size = A at hD ⊢
  have hAb : ∀ q, A q → base ≤ q := fun q h => by
    rw [← hAe] at h
    rcases h with ⟨k, e9, hk9⟩ | h
    · obtain ⟨a, ha, ea⟩ := List.mem_map.mp (List.mem_of_getElem? hk9)
      cases ea
      exact hBL _ ha
    · exact Nat.le_trans hBs h
  have hA : ∀ q : Nat, s.heap.size ≤ q → A q := fun q h => by rw [← hAe]; exact Or.inr h
  have hS : va_S A s.heap s.heap [] := va_S.rf
  have hb' : c.code = P.1 := by rw [hP1]; exact hb
  have hml9 : c.maxLocals = M.2.2.1 := hml0
  have hcat : ∀ v ∈ av, v.category = 1 := by
    intro v hv
    obtain ⟨i, hi⟩ := List.getElem?_of_mem hv
    have hl : i < avs.length := by rw [← hall.1]; exact (List.getElem?_eq_some_iff.mp hi).1
    exact rk_has_cat (hall.2 i _ v (List.getElem?_eq_getElem hl) hi)
  let Qf := MQ below (rk_Q (rk_post K E tys G (X + C) L f av alts pm) (rk_B D tys L A) A) av.toArray s 0 0 A
  -- the end of the method
  have Hret : ∀ (X1 : Int) (nE : Nat) (r0 : Nat → Value) (eN : Nat) (cA : Int) (lA : List (Nat × Int)), 0 ≤ X1 → (∀ q ∈ lA, q.1 < nE) → X1 + (cA + rk_lv r0 lA) ≤ X + C → (∀ i, i < eN → i < nE ∧ av[i]? = some (r0 i)) → ∀ (pc : Nat) (ins : Instr) (S : rk_St), decode P.1 pc = .ok (ins, 1) → rk_rt eN rk alts cA lA ins S = true → rk_G p l e (headSpec (rk_ws M) { frames := M.2.2.2.2.1, cells := 0, slots := 0, locals := M.2.2.2.2.2 }).room s m av.toArray below meth c Qf (fun u => pm = true → u = f, K, E, tys, D, A, s.heap, G, L, M.2.2.1, X1) nE r0 pc S := by
    intro X1 nE r0 eN cA lA hX1 hlA hM heN pc ins S hdg hrr r f1 H1 locs1 ls1 st1 hon
    obtain ⟨lo, sk, en, kn, fc, co⟩ := S
    unfold rk_rt at hrr
    rw [Bool.and_eq_true] at hrr
    obtain ⟨hc1, hrr⟩ := hrr
    have hco : X1 + co ≤ X + C := by
      split at hc1
      · cases hc1
      · rename_i w hw
        rw [decide_eq_true_eq] at hc1
        have h1 := rk_low_ok hon.1 lA w hw
        rw [rk_lv_eq hon.2.2.2.2.2.1 lA hlA] at h1
        omega
    obtain ⟨o1, o2, o3, o4, o5, o6, o7, o8⟩ := hon
    obtain ⟨oP, oD, oS, oT, oPf⟩ := o8
    have hargs : ∀ q : Nat × rk_AV, (Nat.blt q.1 eN && (match en[q.1]? with
        | none => false
        | some u => rk_le u q.2)) = true → ∃ w, av[q.1]? = some w ∧ rk_has G (X + C) q.2 w := by
      intro q hq
      rw [Bool.and_eq_true, Nat.blt_eq] at hq
      obtain ⟨q1, q2⟩ := hq
      obtain ⟨b1, b2⟩ := heN _ q1
      refine ⟨r0 q.1, b2, ?_⟩
      split at q2
      · cases q2
      · rename_i u hu
        rw [← o6 _ b1]
        have h3 : rk_has G (X1 + co) u (r q.1) := o1 _ _ hu
        exact rk_has_X hco (rk_le_ok (by omega) q2 h3)
    have hfin : ∀ (v : Option Value), rk_alt G (X + C) av alts v → ∀ t : State, t.heap = H1 → s.WarmedH t.vm → rk_Q (rk_post K E tys G (X + C) L f av alts pm) (rk_B D tys L A) A av.toArray s (.returned v) t := fun v hv t ht hW => ⟨⟨v, f1, rfl, ⟨hv, rk_TY_X hco oT, oPf⟩, ⟨by rw [ht]; exact oP, va_K.moved hW.alike hK, oD⟩⟩, oS.F ht⟩
    have haok : ∀ (t : rk_AV) (w : Value), rk_has G (X1 + co) t w → alts.any (rk_aOK eN en t) = true → rk_alt G (X + C) av alts (some w) := by
      intro t w hw hany
      rw [List.any_eq_true] at hany
      obtain ⟨a, ha, hok⟩ := hany
      unfold rk_aOK at hok
      rw [Bool.and_eq_true, Bool.and_eq_true, List.all_eq_true] at hok
      obtain ⟨h9, hle, hargs9⟩ := hok
      refine ⟨a, ha, ?_, fun q hq => hargs q (hargs9 q hq)⟩
      rw [if_neg (by
        intro h0
        rw [h0] at h9
        simp at h9)]
      exact ⟨w, rfl, rk_has_X hco (rk_le_ok (by omega) hle hw)⟩
    rw [hP1] at hdg
    split at hrr
    · rw [Bool.and_eq_true, Bool.and_eq_true, Nat.beq_eq] at hrr
      obtain ⟨k0, k1, k2⟩ := hrr
      have hsk : sk = [] := by
        cases sk with
        | nil => rfl
        | cons _ _ => simp at k1
      subst hsk
      rw [o5]
      refine W.vret hx hb (by rw [hr]; exact hrt.1 k0) (hfin none ?_) oS.2.2 hdg
      rw [List.any_eq_true] at k2
      obtain ⟨a, ha, hok⟩ := k2
      unfold rk_vOK at hok
      rw [Bool.and_eq_true, List.all_eq_true, Nat.beq_eq] at hok
      refine ⟨a, ha, ?_, fun q hq => hargs q (hok.2 q hq)⟩
      rw [if_pos hok.1]
    · split at hrr
      · rename_i y
        split at hrr
        · cases hrr
        · rename_i t ht
          rw [Bool.and_eq_true, Bool.or_eq_true, Bool.and_eq_true, Bool.and_eq_true, Nat.beq_eq, Nat.beq_eq] at hrr
          obtain ⟨hty, hany⟩ := hrr
          have hv : rk_has G (X1 + co) t (r y) := o1 _ _ ht
          rw [o5]
          rcases hty with ⟨k0, k1⟩ | ⟨k0, k1⟩
          · obtain ⟨x, ex⟩ := rk_isI_ok k1 hv
            simp only [List.map_cons, List.map_nil]
            rw [ex]
            rw [ex] at hv
            exact W.iret hx hb (by rw [hr]; exact hrt.2.1 k0) (hfin _ (haok t _ hv hany)) oS.2.2 hdg
          · obtain ⟨x, ex, p1, p2⟩ := rk_le_ok (X := X1 + co) (by omega) k1 hv
            simp only [List.map_cons, List.map_nil]
            rw [ex]
            rw [ex] at hv
            have hx01 : x = 0 ∨ x = 1 := by
              rcases (by omega : x.toInt = 0 ∨ x.toInt = 1) with h0 | h0
              · exact Or.inl (Int32.toInt_inj.mp h0)
              · exact Or.inr (Int32.toInt_inj.mp h0)
            refine W.zret (ty := .boolean) hx hb (by rw [hr]; exact hrt.2.2.1 k0) ?_ (hfin _ (haok t _ hv hany)) oS.2.2 hdg
            rcases hx01 with rfl | rfl <;> rfl
      · cases hrr
    · split at hrr
      · rename_i y
        split at hrr
        · cases hrr
        · rename_i t ht
          rw [Bool.and_eq_true, Bool.and_eq_true, Nat.beq_eq] at hrr
          obtain ⟨k0, k1, hany⟩ := hrr
          have hv : rk_has G (X1 + co) t (r y) := o1 _ _ ht
          rw [o5]
          obtain ⟨rt, hrt1, hrt2⟩ := hrt.2.2.2 k0
          exact W.aret hx hb (by rw [hr]; exact hrt1) hrt2 (rk_isR_ok k1 hv) (hfin _ (haok t _ hv hany)) oS.2.2 hdg
      · cases hrr
    · cases hrr
  -- the walk from a cut
  have Hcap : ∀ (X1 : Int) (nE : Nat) (r0 : Nat → Value) (cA : Int) (lA : List (Nat × Int)), (∀ q ∈ lA, q.1 < nE) → X1 + (cA + rk_lv r0 lA) ≤ X + C → ∀ (en : List rk_AV) (co X' : Int) (r : Nat → Value), (∀ y, y < nE → r y = r0 y) → (∀ y t, en[y]? = some t → rk_has G X' t (r y)) → rk_cap cA lA en co = true → X1 + co ≤ rk_top := by
    intro X1 nE r0 cA lA hlA hM en co X' r hr0 hen hcap
    unfold rk_cap at hcap
    split at hcap
    · cases hcap
    · rename_i w hw
      rw [decide_eq_true_eq] at hcap
      have h1 := rk_low_ok hen lA w hw
      rw [rk_lv_eq hr0 lA hlA] at h1
      omega
  have hPf : pm = false → ∀ u : Nat → va_E, (fun u : Nat → va_E => pm = true → u = f) u := fun h0 u h1 => by
    rw [h0] at h1
    cases h1
  have Go : ∀ (X1 : Int) (nE : Nat) (r0 : Nat → Value) (eN : Nat) (tA : Option (Int × List (Nat × Int))) (cA : Int) (lA : List (Nat × Int)), 0 ≤ X1 → 0 ≤ cA + rk_lv r0 lA → (∀ q ∈ lA, q.1 < nE) → X1 + (cA + rk_lv r0 lA) ≤ X + C → (∀ i, i < eN → i < nE ∧ av[i]? = some (r0 i)) → (∀ (B : rk_Cut) (S : rk_St), B ∈ cs → rk_ent tA cA lA B S = true → rk_G p l e (headSpec (rk_ws M) { frames := M.2.2.2.2.1, cells := 0, slots := 0, locals := M.2.2.2.2.2 }).room s m av.toArray below meth c Qf (fun u => pm = true → u = f, K, E, tys, D, A, s.heap, G, L, M.2.2.1, X1) nE r0 B.1 S) → ∀ (pc : Nat) (S : rk_St), rk_go K ER ap ctr P pm rk alts cs eN tA cA lA nE fuel pc S = true → rk_G p l e (headSpec (rk_ws M) { frames := M.2.2.2.2.1, cells := 0, slots := 0, locals := M.2.2.2.2.2 }).room s m av.toArray below meth c Qf (fun u => pm = true → u = f, K, E, tys, D, A, s.heap, G, L, M.2.2.1, X1) nE r0 pc S := by
    intro X1 nE r0 eN tA cA lA hX1 hM0 hlA hM heN Hcut pc S hgo
    exact rk_go_ok hPf hx hb' hml9 hP2 hown hts (fun w hw => List.mem_cons_of_mem _ hw) hK hN (fun U locs hS9 hW => hNw s U A locs hAb hS9 hW hN) hNc (hfl s _ hts hN) hER hap (hml s _ hts hN) hct hBL hBs (hcs s _ hts) (hss s hN) (hac s _ hts) hA hX1 (by omega) (Hcap X1 nE r0 cA lA hlA hM) (Hret X1 nE r0 eN cA lA hX1 hlA hM heN) Hcut fuel pc S hgo
  -- what a cut's own rows say
  have hcut : ∀ B ∈ cs, rk_okK P.2.1 (rk_nT B) B.2.1 B.2.2.1 = true ∧ rk_okL B.2.1 B.2.2.2.1.1 B.2.2.2.1.2 = true ∧ rk_okL B.2.1 B.2.2.2.2.1 B.2.2.2.2.2 = true ∧ B.2.2.1.length ≤ B.2.1.length ∧ rk_go K ER ap ctr P pm rk alts cs 0 (some B.2.2.2.1) B.2.2.2.2.1 B.2.2.2.2.2 B.2.1.length fuel B.1 (rk_S0 (rk_nT B) B.2.1 B.2.2.1) = true := by
    intro B hB
    have hBc := List.all_eq_true.mp w5 B hB
    rw [Bool.and_eq_true, Bool.and_eq_true, Bool.and_eq_true, Bool.and_eq_true, Bool.and_eq_true, Bool.and_eq_true] at hBc
    obtain ⟨-, -, c3, c4, c5, c6, c7⟩ := hBc
    exact ⟨c4, c5, c6, Nat.ble_eq ▸ c3, c7⟩
  -- what holds as a cut is come to
  have Arr : ∀ (X1 : Int) (nE : Nat) (r0 : Nat → Value) (tA : Option (Int × List (Nat × Int))) (cA : Int) (lA : List (Nat × Int)), 0 ≤ X1 → (∀ q ∈ lA, q.1 < nE) → (∀ a, tA = some a → ∀ q ∈ a.2, q.1 < nE) → ∀ (B : rk_Cut) (S : rk_St), B ∈ cs → rk_ent tA cA lA B S = true → ∀ (r : Nat → Value) (f2 : Nat → va_E) (H2 : Heap) (locs2 : List Loc) (ls2 : Array Slot) (st2 : List Value), rk_on (fun u => pm = true → u = f, K, E, tys, D, A, s.heap, G, L, M.2.2.1, X1) nE r0 r S f2 H2 locs2 ls2 st2 →
      ∃ (r1 : Nat → Value) (co : Int), st2 = [] ∧ 0 ≤ co ∧ 0 ≤ B.2.2.2.2.1 + rk_lv r1 B.2.2.2.2.2 ∧ 0 ≤ B.2.2.2.1.1 + rk_lv r1 B.2.2.2.1.2 ∧ B.2.2.2.2.1 + rk_lv r1 B.2.2.2.2.2 + co ≤ cA + rk_lv r0 lA ∧ (∀ a, tA = some a → B.2.2.2.1.1 + rk_lv r1 B.2.2.2.1.2 + 1 ≤ a.1 + rk_lv r0 a.2) ∧ (∀ y t, B.2.1[y]? = some t → rk_has G (X1 + co) t (r1 y)) ∧ lv_has ls2 M.2.2.1 ((rk_loc 0 (B.2.1.take (rk_nT B))).map fun q => (q.1, r1 q.2)) ∧ (∀ q ∈ rk_kn0 (rk_nT B) B.2.2.1, ∃ a, r1 q.1 = .ref a ∧ rk_kf r1 (f2 a) q.2.1 = some (r1 q.2.2)) ∧ rk_w (fun u => pm = true → u = f, K, E, tys, D, A, s.heap, G, L, M.2.2.1, X1 + co) 0 f2 H2 locs2 := by
    intro X1 nE r0 tA cA lA hX1 hlA htA B S hB hent r f2 H2 locs2 ls2 st2 hon
    obtain ⟨ck, ct, cc9, cl9, -⟩ := hcut B hB
    have ct := rk_okL_ok ct
    have cc9 := rk_okL_ok cc9
    unfold rk_okK at ck
    rw [Bool.and_eq_true, Bool.and_eq_true, List.all_eq_true, List.all_eq_true, Bool.or_eq_true, Nat.beq_eq] at ck
    obtain ⟨ck0, ck1, ck2⟩ := ck
    obtain ⟨lo, sk, en, kn, fc, co⟩ := S
    rcases sk with _ | ⟨y0, sk⟩
    · simp only [rk_ent] at hent
      rw [Bool.and_eq_true, Bool.and_eq_true] at hent
      obtain ⟨hfit, hms, hmt⟩ := hent
      obtain ⟨o1, o2, o3, o4, o5, o6, o7, o8⟩ := hon
      generalize hlo2 : lo ++ rk_xt lo kn (rk_nT B) B.2.2.1 = lo2 at hfit hms hmt
      have hf2 := rk_fit2_ok B.2.1 0 hfit
      -- the locals as the new start's symbols
      let r1 : Nat → Value := fun i => if (match B.2.1[i]? with
        | some t => Nat.blt t.1 4
        | none => false) then (match rk_lk lo2 i with
          | some y => r y
          | none => .null) else .null
      have hr1 : ∀ (i : Nat) (t : rk_AV), B.2.1[i]? = some t → t.1 < 4 → ∃ y u, rk_lk lo2 i = some y ∧ en[y]? = some u ∧ rk_le u t = true ∧ r1 i = r y := by
        intro i t ht h4
        obtain ⟨y, u, e1, e2, e3⟩ := hf2 i t ht h4
        rw [Nat.zero_add] at e1
        refine ⟨y, u, e1, e2, e3, ?_⟩
        show (if (match B.2.1[i]? with
          | some t => Nat.blt t.1 4
          | none => false) then (match rk_lk lo2 i with
            | some y => r y
            | none => .null) else .null) = r y
        rw [ht]
        dsimp only
        rw [if_pos (by rw [Nat.blt_eq]; exact h4), e1]
      have hty : ∀ y t, B.2.1[y]? = some t → rk_has G (X1 + co) t (r1 y) := by
        intro y t ht
        by_cases h4 : t.1 < 4
        · obtain ⟨z, u, e1, e2, e3, e4⟩ := hr1 y t ht h4
          rw [e4]
          exact rk_le_ok (by omega) e3 (o1 _ _ e2)
        · have hnull : r1 y = .null := by
            show (if (match B.2.1[y]? with
              | some t => Nat.blt t.1 4
              | none => false) then (match rk_lk lo2 y with
                | some y => r y
                | none => .null) else .null) = .null
            rw [ht]
            dsimp only
            rw [if_neg (by rw [Nat.blt_eq]; exact h4)]
          rw [hnull]
          obtain ⟨n, a, b⟩ := t
          dsimp only at h4
          rcases n with _ | _ | _ | _ | n
          · omega
          · omega
          · omega
          · omega
          · exact Or.inl rfl
      have hsb : ∀ (l9 : List (Nat × Int)), (∀ q ∈ l9, q.1 < B.2.1.length ∧ ∃ a b, B.2.1[q.1]? = some (0, a, b)) → ∀ q ∈ l9, ∀ y, rk_lk lo2 q.1 = some y → r1 q.1 = r y := by
        intro l9 h9 q hq y hy
        obtain ⟨g1, a, b, ht⟩ := h9 q hq
        obtain ⟨z, u, e1, e2, e3, e4⟩ := hr1 q.1 _ ht (by simp)
        rw [e4]
        rw [hy] at e1
        cases e1
        rfl
      have hin : ∀ i y, i < rk_nT B → rk_lk lo2 i = some y → (i, y) ∈ lo := by
        intro i y hi hy
        have := rk_lk_ok lo2 hy
        rw [← hlo2] at this
        rcases List.mem_append.mp this with h | h
        · exact h
        · obtain ⟨q, z, y', -, e2, -⟩ := rk_xt_ok _ _ h
          omega
      refine ⟨r1, co, o5, o7.1, cc9.2 G _ r1 hty, ct.2 G _ r1 hty, ?_, ?_, hty, ?_, ?_, ?_⟩
      · have := rk_ms_ok (r1 := r1) hms o3 o1 (hsb _ cc9.1)
        dsimp only at this
        rw [rk_lv_eq o6 lA hlA] at this
        exact this
      · intro a ha
        subst ha
        have := rk_ms_ok (r1 := r1) hmt o3 o1 (hsb _ ct.1)
        rw [rk_lv_eq o6 a.2 (htA a rfl)] at this
        exact this
      · refine ⟨o4.1, o4.2.1, fun q hq => ?_⟩
        obtain ⟨z, hz, rfl⟩ := List.mem_map.mp hq
        obtain ⟨i, t, e1, e2, e3⟩ := rk_loc_ok _ 0 hz
        rw [Nat.zero_add] at e1
        subst e1
        have hiT : i < rk_nT B := by
          have := (List.getElem?_eq_some_iff.mp e2).1
          rw [List.length_take] at this
          omega
        rw [List.getElem?_take_of_lt hiT] at e2
        obtain ⟨y, u, d1, d2, d3, d4⟩ := hr1 i t e2 e3
        dsimp only
        rw [d4]
        exact o4.2.2 (i, r y) (List.mem_map.mpr ⟨(i, y), hin i y hiT d1, rfl⟩)
      · intro q hq
        obtain ⟨k, z, hz, rfl⟩ := rk_kn0_ok _ _ hq
        dsimp only
        have hz2 := ck1 z (List.mem_of_getElem? hz)
        rw [Bool.and_eq_true, Bool.and_eq_true, Nat.blt_eq, Nat.blt_eq] at hz2
        obtain ⟨z1, z2, z3⟩ := hz2
        have hkl : k < B.2.2.1.length := (List.getElem?_eq_some_iff.mp hz).1
        have hpl : rk_nT B + k < B.2.1.length := by
          unfold rk_nT
          omega
        have htp : B.2.1[rk_nT B + k]? = some B.2.1[rk_nT B + k] := List.getElem?_eq_getElem hpl
        have ht4 : (B.2.1[rk_nT B + k]).1 < 4 := by
          have := ck2 (B.2.1[rk_nT B + k]) (by
            rw [List.mem_iff_getElem?]
            exact ⟨k, by rw [List.getElem?_drop]; exact htp⟩)
          rw [Nat.blt_eq] at this
          exact this
        obtain ⟨v, u, d1, d2, d3, d4⟩ := hr1 _ _ htp ht4
        have hmem := rk_lk_ok lo2 d1
        rw [← hlo2] at hmem
        have hx9 : ∃ y, rk_lk lo z.1 = some y ∧ rk_kn y z.2 kn = some v := by
          rcases List.mem_append.mp hmem with h | h
          · -- a local beyond the locals: it isn't there
            have h5 := lv_lt (o4.2.2 (rk_nT B + k, r v) (List.mem_map.mpr ⟨(rk_nT B + k, v), h, rfl⟩))
            rw [o4.1] at h5
            have h6 : rk_fn (fun u => pm = true → u = f, K, E, tys, D, A, s.heap, G, L, M.2.2.1, X1) = M.2.2.1 := rfl
            rw [h6] at h5
            rcases ck0 with h7 | h7
            · rw [List.isEmpty_iff] at h7
              rw [h7] at hkl
              simp at hkl
            · omega
          · obtain ⟨q, z', y', e1, e2, e3, e4⟩ := rk_xt_ok _ _ h
            have : q = k := by omega
            subst this
            rw [hz] at e1
            cases e1
            exact ⟨y', e3, e4⟩
        obtain ⟨y, hy1, hy2⟩ := hx9
        obtain ⟨a, b1, b2⟩ := o2 _ (rk_kn_ok kn hy2)
        dsimp only at b1 b2
        have hrz : r1 z.1 = r y := by
          split at z3
          · rename_i t ht
            rw [Nat.blt_eq] at z3
            obtain ⟨y9, u9, g1, g2, g3, g4⟩ := hr1 z.1 t ht z3
            have h1 := rk_lk_app (xs := rk_xt lo kn (rk_nT B) B.2.2.1) lo hy1
            rw [hlo2, g1] at h1
            cases h1
            exact g4
          · cases z3
        refine ⟨a, by rw [hrz]; exact b1, ?_⟩
        rw [d4, ← b2]
        unfold rk_kf
        rw [if_pos z2, if_pos z2]
      · obtain ⟨a1, a2, a3, a4, a5⟩ := o8
        refine ⟨a1, a2, a3, ?_, a5⟩
        rw [Int.add_zero]
        exact a4
    · simp [rk_ent] at hent
  -- cuts by their measure
  have Cuts : ∀ (n : Nat) (B : rk_Cut), B ∈ cs → ∀ (X1 : Int) (r1 : Nat → Value) (f1 : Nat → va_E) (H1 : Heap) (locs1 : List Loc) (ls1 : Array Slot), 0 ≤ X1 → 0 ≤ B.2.2.2.2.1 + rk_lv r1 B.2.2.2.2.2 → (B.2.2.2.1.1 + rk_lv r1 B.2.2.2.1.2).toNat < n → X1 + (B.2.2.2.2.1 + rk_lv r1 B.2.2.2.2.2) ≤ X + C → (∀ y t, B.2.1[y]? = some t → rk_has G X1 t (r1 y)) → lv_has ls1 M.2.2.1 ((rk_loc 0 (B.2.1.take (rk_nT B))).map fun q => (q.1, r1 q.2)) → (∀ q ∈ rk_kn0 (rk_nT B) B.2.2.1, ∃ a, r1 q.1 = .ref a ∧ rk_kf r1 (f1 a) q.2.1 = some (r1 q.2.2)) → rk_w (fun u => pm = true → u = f, K, E, tys, D, A, s.heap, G, L, M.2.2.1, X1) 0 f1 H1 locs1 → W p l e (headSpec (rk_ws M) { frames := M.2.2.2.2.1, cells := 0, slots := 0, locals := M.2.2.2.2.2 }).room s m av.toArray below meth c H1 locs1 0 0 Qf (F0 m B.1 ls1 []) := by
    intro n
    induction n with
    | zero => intro B _ X1 r1 f1 H1 locs1 ls1 _ _ h9; omega
    | succ n ih =>
      intro B hB X1 r1 f1 H1 locs1 ls1 hX1 hM0 hn hM hty hls hkn hw
      obtain ⟨-, ct, cc9, -, c5⟩ := hcut B hB
      have ct := rk_okL_ok ct
      have cc9 := rk_okL_ok cc9
      have hon : rk_on (fun u => pm = true → u = f, K, E, tys, D, A, s.heap, G, L, M.2.2.1, X1) B.2.1.length r1 r1 (rk_S0 (rk_nT B) B.2.1 B.2.2.1) f1 H1 locs1 ls1 [] := by
        refine ⟨fun y t ht => ?_, hkn, fun q hq => (by cases hq), hls, rfl, fun _ _ => rfl, ⟨Int.le_refl 0, by omega⟩, hw⟩
        show rk_has G (X1 + 0) t (r1 y)
        rw [Int.add_zero]
        exact hty y t ht
      refine Go X1 B.2.1.length r1 0 (some B.2.2.2.1) B.2.2.2.2.1 B.2.2.2.2.2 hX1 hM0 (fun q hq => (cc9.1 q hq).1) hM (fun i hi => by omega) ?_ B.1 (rk_S0 (rk_nT B) B.2.1 B.2.2.1) c5 r1 f1 H1 locs1 ls1 [] hon
      intro B2 S2 hB2 hent r f2 H2 locs2 ls2 st2 hon2
      obtain ⟨r2, co, e1, e2, e3, e3t, e4, e4t, e5, e6, e6k, e7⟩ := Arr X1 B.2.1.length r1 (some B.2.2.2.1) B.2.2.2.2.1 B.2.2.2.2.2 hX1 (fun q hq => (cc9.1 q hq).1) (fun a ha q hq => by cases ha; exact (ct.1 q hq).1) B2 S2 hB2 hent r f2 H2 locs2 ls2 st2 hon2
      have e4t := e4t _ rfl
      subst e1
      exact ih B2 hB2 (X1 + co) r2 f2 H2 locs2 ls2 (by omega) e3 (by omega) (by omega) e5 e6 e6k e7
  -- the entry
  have hlen : (lg_sl av).length ≤ M.2.2.1 := by
    rw [rk_sl_len av hcat, hall.1, ← hP2]
    exact w1
  have hl := lv_entry av (n := M.2.2.1) hlen
  rw [lg_entry_eq]
  generalize (lg_sl av ++ List.replicate (M.2.2.1 - (lg_sl av).length) Slot.unset).toArray = ls at hl ⊢
  have hg0 : ∀ (i : Nat) (v : Value), av[i]? = some v → av.getD i .null = v := fun i v h9 => by rw [List.getD_eq_getElem?_getD, h9]; rfl
  have hty0 : ∀ (y : Nat) (t : rk_AV), avs[y]? = some t → ∃ v : Value, av[y]? = some v ∧ rk_has G X t v := by
    intro y t ht
    have hy : y < av.length := by rw [hall.1]; exact (List.getElem?_eq_some_iff.mp ht).1
    exact ⟨av[y], List.getElem?_eq_getElem hy, hall.2 y t _ ht (List.getElem?_eq_getElem hy)⟩
  have hw0 : rk_w (fun u => pm = true → u = f, K, E, tys, D, A, s.heap, G, L, M.2.2.1, X) 0 f s.heap [] := ⟨hP, hD, hS, by rw [Int.add_zero]; exact hTY, fun _ => rfl⟩
  have hon : rk_on (fun u => pm = true → u = f, K, E, tys, D, A, s.heap, G, L, M.2.2.1, X) avs.length (fun i => av.getD i .null) (fun i => av.getD i .null) (rk_S0 avs.length avs []) f s.heap [] ls [] := by
    refine ⟨fun y t ht => ?_, fun q hq => (by cases hq), fun q hq => (by cases hq), ⟨hl.1, hl.2.1, fun q hq => ?_⟩, rfl, fun _ _ => rfl, ⟨Int.le_refl 0, by omega⟩, hw0⟩
    · show rk_has G (X + 0) t (av.getD y .null)
      rw [Int.add_zero]
      obtain ⟨v, e1, e2⟩ := hty0 y t ht
      rw [hg0 y v e1]
      exact e2
    · obtain ⟨z, hz, rfl⟩ := List.mem_map.mp hq
      rw [List.take_length] at hz
      obtain ⟨i, t, e1, e2, e3⟩ := rk_loc_ok avs 0 hz
      rw [Nat.zero_add] at e1
      subst e1
      obtain ⟨v, d1, d2⟩ := hty0 i t e2
      dsimp only
      rw [hg0 i v d1]
      have := rk_args_in av 0 i hcat d1
      rw [Nat.zero_add] at this
      exact hl.2.2 _ this
  refine Go X avs.length (fun i => av.getD i .null) avs.length none C [] hX (by simp only [rk_lv]; omega) (fun q hq => by cases hq) (by simp only [rk_lv]; omega) (fun i hi => ⟨hi, ?_⟩) ?_ 0 (rk_S0 avs.length avs []) w4 _ f s.heap [] ls [] hon
  · have hi2 : i < av.length := by rw [hall.1]; exact hi
    rw [hg0 i _ (List.getElem?_eq_getElem hi2)]
    exact List.getElem?_eq_getElem hi2
  · intro B2 S2 hB2 hent r f2 H2 locs2 ls2 st2 hon2
    obtain ⟨r2, co, e1, e2, e3, e3t, e4, -, e5, e6, e6k, e7⟩ := Arr X avs.length (fun i => av.getD i .null) none C [] hX (fun q hq => by cases hq) (fun a ha => by cases ha) B2 S2 hB2 hent r f2 H2 locs2 ls2 st2 hon2
    subst e1
    simp only [rk_lv] at e4
    exact Cuts _ B2 hB2 (X + co) r2 f2 H2 locs2 ls2 (by omega) e3 (Nat.lt_succ_self _) (by omega) e5 e6 e6k e7
end
section
/-! tables out of lists -/
abbrev rk_Ent : Type := Nat × List rk_AV × List rk_Alt × Int × Bool
def rk_les : List rk_AV → List rk_AV → Bool
  | [], [] => true
  | a :: l, b :: m => rk_le a b && rk_les l m
  | _, _ => false
theorem rk_les_ok {G : Nat → Option Nat} {X : Int} (hX : 0 ≤ X) : ∀ (a b : List rk_AV) (av : List Value), rk_les a b = true → rk_all G X a av → rk_all G X b av
  | [], [], av, _, h => h
  | a :: l, b :: m, av, h, ha => by
    unfold rk_les at h
    rw [Bool.and_eq_true] at h
    cases av with
    | nil => exact absurd ha.1 (by simp)
    | cons v vs =>
      have ih := rk_les_ok hX l m vs h.2 ⟨by have := ha.1; simpa using this, fun i t w ht hw => ha.2 (i + 1) t w (by rw [List.getElem?_cons_succ]; exact ht) (by rw [List.getElem?_cons_succ]; exact hw)⟩
      refine ⟨by simp [ih.1], fun i t w ht hw => ?_⟩
      rcases i with _ | i
      · simp only [List.getElem?_cons_zero, Option.some.injEq] at ht hw
        subst ht hw
        exact rk_le_ok hX h.1 (ha.2 0 a v rfl rfl)
      · rw [List.getElem?_cons_succ] at ht hw
        exact ih.2 i t w ht hw
  | [], _ :: _, _, h, _ => by simp [rk_les] at h
  | _ :: _, [], _, h, _ => by simp [rk_les] at h
def rk_look : List rk_Ent → Nat → List rk_AV → Option (List rk_Alt × Int × Bool)
  | [], _, _ => none
  | q :: l, z, avs => if Nat.beq q.1 z && rk_les avs q.2.1 then some q.2.2 else rk_look l z avs
theorem rk_look_ok {base : Nat} {l : Launch} {K : Nat → rk_KD} {E : Nat → Nat → rk_AV} {tys : List (ClassId × FieldType)} {D : va_G} {NU : State → Prop} {mt : Nat → rk_Mt} : ∀ (es : List rk_Ent), (∀ q ∈ es, rk_Met base l K E tys D NU (mt q.1) q.2.1 q.2.2.1 q.2.2.2.1 q.2.2.2.2) → ∀ z avs alts C pu, rk_look es z avs = some (alts, C, pu) → rk_Met base l K E tys D NU (mt z) avs alts C pu
  | [], _, z, avs, alts, C, pu, h => by cases h
  | q :: es, hq, z, avs, alts, C, pu, h => by
    unfold rk_look at h
    split at h
    · rename_i hc
      rw [Bool.and_eq_true, Nat.beq_eq] at hc
      have h1 := hq q List.mem_cons_self
      obtain ⟨z', ps, alts', C', pu'⟩ := q
      dsimp only at hc h h1
      obtain ⟨rfl, hle⟩ := hc
      cases h
      intro G X L f av sz hX hXC hall
      exact h1 G X L f av sz hX hXC (rk_les_ok hX _ _ _ hle hall)
    · exact rk_look_ok es (fun p hp => hq p (List.mem_cons_of_mem _ hp)) z avs alts C pu h
def rk_flf : List (Nat × Nat × Nat × Nat) → rk_Fl
  | [], _ => none
  | q :: l, i => if Nat.beq q.1 i then some q.2 else rk_flf l i
theorem rk_flf_ok {i : Nat} {w : Nat × Nat × Nat} : ∀ l : List (Nat × Nat × Nat × Nat), rk_flf l i = some w → (i, w) ∈ l
  | [], h => by cases h
  | q :: l, h => by
    unfold rk_flf at h
    split at h
    · rename_i hq
      rw [Nat.beq_eq] at hq
      cases h
      subst hq
      exact List.mem_cons_self
    · exact List.mem_cons_of_mem _ (rk_flf_ok l h)
def rk_F1 (s : State) (args : Array Value) (Ts : List Jvm.Cond) (own : String) (q : Nat × Nat × Nat × Nat) : Prop := ∃ (C : String) (T : u_T) (N : Nat) (ty0 : Nat → FieldType), vwCl[q.2.1]? = some (C, T, N) ∧ q.2.2.1 < N ∧ (∀ z ∈ u_ws C T N, z ∈ Ts) ∧ (∀ j, j < N → parseFieldDescriptor (T j).2.2.1 = some (ty0 j)) ∧ (∀ a, a < N → ∀ b, b < N → a ≠ b → (T a).2.1 ≠ (T b).2.1) ∧
  ((Jvm.Cond.fieldLink own q.1 (T q.2.2.1).1 (T q.2.2.1).2.1 (T q.2.2.1).2.2.1).before args s = true ∨ ∃ host : String, (Jvm.Cond.fieldLinkNest own q.1 (T q.2.2.1).1 (T q.2.2.1).2.1 (T q.2.2.1).2.2.1 host).before args s = true) ∧
  (q.2.2.2 < 3 → (T q.2.2.1).2.2.2 = false) ∧ (q.2.2.2 = 0 → ty0 q.2.2.1 = .int) ∧ (q.2.2.2 = 1 → ty0 q.2.2.1 = .boolean) ∧ (q.2.2.2 = 2 → ∃ n, ty0 q.2.2.1 = .object n)
theorem rk_FlOk_of {s : State} {args : Array Value} {Ts : List Jvm.Cond} {own : String} {tbl : List (Nat × Nat × Nat × Nat)} (h : ∀ q ∈ tbl, rk_F1 s args Ts own q) : rk_FlOk s args Ts own (rk_flf tbl) := fun idx ci k w hi => h (idx, ci, k, w) (rk_flf_ok tbl hi)
def rk_mlf : List (Nat × Nat × Nat × Nat) → rk_Ml := rk_flf
def rk_mt (l : List rk_Mt) (z : Nat) : rk_Mt := l.getD z (⟨"", "", ""⟩, ⟨#[]⟩, 0, none, 0, 0)
/-- a call's words, but its room -/
def rk_M1 (s : State) (args : Array Value) (own : String) (idx : Nat) (M : rk_Mt) (n cr : Nat) : Prop := Jvm.Cond.code M.1 M.2.1 M.2.2.1 M.2.2.2.1 ∈ rk_tbl ∧ (Jvm.Cond.initialized M.1.cls).before args s = true ∧ (M.1.cls ≠ "java/lang/invoke/MethodHandle" ∧ M.1.cls ≠ "java/lang/invoke/VarHandle") ∧
  ((Jvm.Cond.methodLink own idx M.1).before args s = true ∨ ∃ host : String, va_Nw (.methodLinkNest own idx M.1 host) s) ∧
  (cr = 0 → (Jvm.Cond.static M.1).before args s = true ∧ (parseMethodDescriptor M.1.desc).map (fun d => d.parameters.length) = some n) ∧
  (∀ ci, cr = ci + 1 → (Jvm.Cond.instanceMethod M.1).before args s = true ∧ (Jvm.Cond.selects M.1.cls M.1 M.1).before args s = true ∧ (∃ q, vwCl[ci]? = some q ∧ q.1 = M.1.cls) ∧ ∃ k, n = k + 1 ∧ (parseMethodDescriptor M.1.desc).map (fun d => d.parameters.length) = some k)
def rk_roomOk (fr lc : Nat) (mt : Nat → rk_Mt) (tbl : List (Nat × Nat × Nat × Nat)) : Bool := tbl.all (fun q => Nat.ble ((mt q.2.1).2.2.2.2.1 + 1) fr && Nat.ble (8 + ((mt q.2.1).2.2.1 + 11) + (mt q.2.1).2.2.2.2.2) lc)
theorem rk_MlOk_of {s : State} {args : Array Value} {fr lc : Nat} {own : String} {mt : Nat → rk_Mt} {tbl : List (Nat × Nat × Nat × Nat)} (h : ∀ q ∈ tbl, rk_M1 s args own q.1 (mt q.2.1) q.2.2.1 q.2.2.2) (hr : rk_roomOk fr lc mt tbl = true) : rk_MlOk s args { frames := fr, cells := 0, slots := 0, locals := lc } own mt (rk_mlf tbl) := by
  intro idx z n cr hi
  have hm := rk_flf_ok tbl hi
  obtain ⟨h1, h2, h3, h4, h5, h6⟩ := h _ hm
  have h7 := List.all_eq_true.mp hr _ hm
  rw [Bool.and_eq_true, Nat.ble_eq, Nat.ble_eq] at h7
  exact ⟨h1, h2, h3, h4, h7, h5, h6⟩
def rk_csf : List (Nat × Int32) → Nat → Option Int32
  | [], _ => none
  | q :: l, i => if Nat.beq q.1 i then some q.2 else rk_csf l i
theorem rk_csf_ok {i : Nat} {v : Int32} : ∀ l : List (Nat × Int32), rk_csf l i = some v → (i, v) ∈ l
  | [], h => by cases h
  | q :: l, h => by
    unfold rk_csf at h
    split at h
    · rename_i hq
      rw [Nat.beq_eq] at hq
      cases h
      subst hq
      exact List.mem_cons_self
    · exact List.mem_cons_of_mem _ (rk_csf_ok l h)
def rk_ssf : List (Nat × Nat) → Nat → Option Nat := rk_lk
def rk_acf (a m : List Nat) (i : Nat) : Nat := if a.any (fun x => Nat.beq x i) then 1 else if m.any (fun x => Nat.beq x i) then 2 else 0
theorem rk_acf_ok {a m : List Nat} {P Q : Nat → Prop} (ha : ∀ i ∈ a, P i) (hm : ∀ i ∈ m, Q i) : ∀ idx, (rk_acf a m idx = 1 → P idx) ∧ (rk_acf a m idx = 2 → Q idx) := by
  intro idx
  have inl : ∀ l : List Nat, l.any (fun x => Nat.beq x idx) = true → idx ∈ l := by
    intro l h
    obtain ⟨x, h1, h2⟩ := List.any_eq_true.mp h
    rw [Nat.beq_eq] at h2
    exact h2 ▸ h1
  unfold rk_acf
  split
  · rename_i h
    exact ⟨fun _ => ha _ (inl _ h), fun h => absurd h (by decide)⟩
  · split
    · rename_i h
      exact ⟨fun h => absurd h (by decide), fun _ => hm _ (inl _ h)⟩
    · exact ⟨fun h => absurd h (by decide), fun h => absurd h (by decide)⟩
theorem rk_in_tbl (i : Nat) {w : Jvm.Cond} (h : lw_tbl[i]? = some w) (hg : goodWord w = true) : w ∈ rk_tbl := List.mem_filter.mpr ⟨List.mem_of_getElem? h, hg⟩
end
section
def rk_kt : List rk_KD := [(0, 0, 0, [(0, -2147483648, 2147483647), (0, -2147483648, 2147483647), (0, -2147483648, 2147483647)]),
  (0, 1, 0, [(2, 7, 0), (2, 0, 0), (2, 29, 0), (2, 4, 0), (0, 0, 1), (1, 0, 0), (0, -2147483648, 2147483647), (0, -2147483648, 2147483647)]),
  (0, 2, 0, [(2, 13, 0), (0, 0, 6), (0, 0, 1), (0, -2147483648, 2147483647), (0, -1, 7), (0, -1, 7), (0, -2147483648, 2147483647)]),
  (0, 3, 0, [(2, 16, 0), (2, 16, 0), (2, 16, 0), (1, 0, 0)]),
  (0, 4, 0, [(2, 15, 0), (1, 0, 0), (0, 0, 1), (0, -2147483648, 2147483647)]),
  (0, 5, 0, [(2, 17, 0), (2, 0, 0), (0, 1, 8), (0, -2147483648, 2147483647), (0, -2147483648, 2147483647), (0, -2147483648, 2147483647), (0, -2147483648, 2147483647), (0, -2147483648, 2147483647), (0, -2147483648, 2147483647), (0, -2147483648, 2147483647)]),
  (0, 6, 0, [(2, 14, 0), (0, 0, 24), (0, 0, 25)]),
  (0, 6, 0, [(2, 18, 0), (0, 0, 119), (0, 0, 120)]),
  (0, 7, 0, [(2, 6, 0), (0, -2147483648, 2147483647), (0, -2147483648, 2147483647), (0, -2147483648, 2147483647), (0, -2147483648, 2147483647), (0, 0, 1), (0, 0, 1), (0, -2147483648, 2147483647), (0, -2147483648, 2147483647), (0, -2147483648, 2147483647), (0, -2147483648, 2147483647), (0, 0, 1), (0, 0, 1), (0, 0, 1), (0, 0, 1), (0, -2147483648, 2147483647), (0, -2147483648, 2147483647), (0, -2147483648, 2147483647), (0, -2147483648, 2147483647), (0, -2147483648, 2147483647)]),
  (0, 8, 0, [(2, 20, 0), (0, 0, 400), (0, -2147483648, 2147483647), (0, -2147483648, 2147483647), (0, 0, 400), (2, 22, 0), (2, 19, 0)]),
  (0, 9, 0, [(2, 25, 0), (2, 26, 0), (2, 27, 0), (2, 28, 0), (2, 3, 0), (2, 21, 0), (0, -2147483648, 2147483647), (0, -2147483648, 2147483647), (0, -2147483648, 2147483647), (0, -2147483648, 2147483647)]),
  (0, 10, 0, [(2, 10, 0), (2, 9, 0), (3, 10, 0), (3, 10, 0)]),
  (0, 11, 0, [(0, -2147483648, 2147483647), (2, 24, 0), (2, 24, 0), (2, 20, 0), (0, 0, 400), (0, -2147483648, 2147483647), (0, -2147483648, 2147483647), (0, 0, 400), (0, 0, 400), (0, 0, 1), (2, 23, 0), (0, 0, 1), (2, 24, 0)]),
  (1, 6, 0, []),
  (1, 25, 0, []),
  (1, 40, 0, []),
  (1, 60, 0, []),
  (1, 64, 0, []),
  (1, 120, 0, []),
  (1, 256, 0, []),
  (1, 400, 0, []),
  (1, 5, 0, []),
  (1, 40, 0, []),
  (1, 4, 0, []),
  (1, 6466, 0, []),
  (2, 40, 1, []),
  (2, 32, 2, []),
  (2, 4, 3, []),
  (2, 8, 4, []),
  (2, 6, 5, [])]
def rk_K (k : Nat) : rk_KD := if Nat.ble 1000 k then (9, 0, 0, []) else rk_kt.getD k (8, 0, 0, [])
def rk_et : List (Option rk_AV) := [none, none, none, none, none, none, none, none, none, none, none, none, none, some (0, -2147483648, 2147483647), some (0, -2147483648, 2147483647), some (0, -2147483648, 2147483647), some (0, -2147483648, 2147483647), some (0, -2147483648, 2147483647), some (0, -2147483648, 2147483647), some (0, -2147483648, 2147483647), some (0, -2147483648, 2147483647), some (0, -2147483648, 2147483647), some (0, -1, 39), some (0, -2147483648, 2147483647), none, some (2, 8, 0), some (2, 2, 0), some (2, 5, 0), some (2, 1, 0), some (2, 4, 0)]
def rk_ER (k : Nat) (_ _ : Int) : Option rk_AV := if Nat.ble 1000 k then none else rk_et.getD k none
def rk_E (ad : Nat → Nat) (k : Nat) (_ : Nat) : rk_AV := if Nat.ble 1000 k then (0, (ad (k - 1000) : Int), 0) else (rk_et.getD k none).getD rk_full
theorem rk_hER (ad : Nat → Nat) : ∀ k a b t, rk_ER k a b = some t → ∀ j : Nat, a ≤ (j : Int) → (j : Int) ≤ b → rk_E ad k j = t := by
  intro k a b t h j _ _
  unfold rk_ER at h
  unfold rk_E
  split at h
  · cases h
  · rename_i hk
    rw [if_neg hk, h]
    rfl
def rk_tys (cI c1 c2 c3 c4 c5 : ClassId) : List (ClassId × FieldType) := [(cI, .int), (c1, .object RX8), (c2, .object RX2), (c3, .object RX6), (c4, .object RX1), (c5, .object RX4)]
theorem rk_hap (cI c1 c2 c3 c4 c5 : ClassId) : ∀ cA C, (rk_tys cI c1 c2 c3 c4 c5)[(5, 4).1]? = some (cA, .object C) → ∃ q, vwCl[(5, 4).2]? = some q ∧ q.1 = C := fun cA C h => by
  cases h
  exact ⟨_, rfl, rfl⟩
def rk_nf : List (String × Nat × String × String × String × String) := [(RX11, 227, "SpaceLinks$Log", "came", "I", "SpaceLinks"), (RX8, 83, "SpaceLinks$Row", "count", "I", "SpaceLinks"), (RX1, 75, "SpaceLinks$Row", "count", "I", "SpaceLinks"), (RX11, 107, "SpaceLinks$Row", "count", "I", "SpaceLinks"), (RX10, 260, "SpaceLinks$Row", "count", "I", "SpaceLinks"), (RX10, 138, "SpaceLinks$Side", "buffer", "LSpaceLinks$Row;", "SpaceLinks"), (RX11, 152, "SpaceLinks$Side", "buffer", "LSpaceLinks$Row;", "SpaceLinks"), (RX10, 103, "SpaceLinks$Side", "state", "I", "SpaceLinks"), (RX11, 130, "SpaceLinks$Side", "state", "I", "SpaceLinks"), (RX10, 237, "SpaceLinks$Side", "age", "I", "SpaceLinks"), (RX10, 197, "SpaceLinks$Side", "quiet", "I", "SpaceLinks"), (RX5, 15, "SpaceLinks$Side", "other", "I", "SpaceLinks"), (RX11, 31, "SpaceLinks$Side", "other", "I", "SpaceLinks"), (RX10, 85, "SpaceLinks$Side", "other", "I", "SpaceLinks"), (RX9, 85, "SpaceLinks$Side", "other", "I", "SpaceLinks"), (RX10, 88, "SpaceLinks$Side", "whole", "Z", "SpaceLinks"), (RX11, 45, "SpaceLinks$Side", "whole", "Z", "SpaceLinks"), (RX10, 100, "SpaceLinks$Side", "on", "Z", "SpaceLinks"), (RX11, 49, "SpaceLinks$Side", "on", "Z", "SpaceLinks"), (RX10, 123, "SpaceLinks$Side", "bought", "I", "SpaceLinks"), (RX10, 126, "SpaceLinks$Side", "sold", "I", "SpaceLinks"), (RX10, 113, "SpaceLinks$Side", "sent", "I", "SpaceLinks"), (RX10, 129, "SpaceLinks$Side", "timeToSend", "I", "SpaceLinks"), (RX11, 146, "SpaceLinks$Side", "timeToSend", "I", "SpaceLinks"), (RX10, 132, "SpaceLinks$Side", "owes", "Z", "SpaceLinks"), (RX10, 200, "SpaceLinks$Side", "answered", "Z", "SpaceLinks"), (RX10, 135, "SpaceLinks$Side", "cameOpen", "Z", "SpaceLinks"), (RX10, 146, "SpaceLinks$Side", "sentOpen", "Z", "SpaceLinks"), (RX10, 116, "SpaceLinks$Side", "fell", "I", "SpaceLinks"), (RX10, 234, "SpaceLinks$Side", "silent", "I", "SpaceLinks"), (RX10, 207, "SpaceLinks$Side", "spoiled", "I", "SpaceLinks"), (RX10, 352, "SpaceLinks$Side", "dataSent", "I", "SpaceLinks"), (RX10, 231, "SpaceLinks$Side", "dataHeard", "I", "SpaceLinks"), (RX10, 309, "SpaceLinks$Input", "order", "[I", "SpaceLinks"), (RX10, 312, "SpaceLinks$Input", "ordered", "I", "SpaceLinks"), (RX10, 246, "SpaceLinks$Input", "ordering", "Z", "SpaceLinks"), (RX10, 191, "SpaceLinks$Input", "mode", "I", "SpaceLinks"), (RX10, 291, "SpaceLinks$Input", "to", "I", "SpaceLinks"), (RX10, 158, "SpaceLinks$Input", "from", "I", "SpaceLinks"), (RX10, 194, "SpaceLinks$Input", "stuck", "I", "SpaceLinks"), (RX1, 78, "SpaceLinks$Clock", "time", "I", "SpaceLinks"), (RX6, 72, "SpaceLinks$Clock", "time", "I", "SpaceLinks"), (RX11, 143, "SpaceLinks$Clock", "time", "I", "SpaceLinks"), (RX10, 319, "SpaceLinks$Clock", "time", "I", "SpaceLinks"), (RX1, 81, "SpaceLinks$Clock", "steps", "I", "SpaceLinks"), (RX6, 75, "SpaceLinks$Clock", "steps", "I", "SpaceLinks"), (RX1, 84, "SpaceLinks$Clock", "jumps", "I", "SpaceLinks"), (RX6, 78, "SpaceLinks$Clock", "jumps", "I", "SpaceLinks"), (RX11, 242, "SpaceLinks$Router", "tables", "[I", "SpaceLinks"), (RX10, 230, "SpaceLinks$Router", "clock", "LSpaceLinks$Clock;", "SpaceLinks"), (RX10, 175, "SpaceLinks$Router", "turn", "I", "SpaceLinks"), (RX10, 297, "SpaceLinks$Router", "routed", "I", "SpaceLinks"), (RX10, 278, "SpaceLinks$Router", "taken", "I", "SpaceLinks"), (RX10, 284, "SpaceLinks$Router", "lost", "I", "SpaceLinks"), (RX10, 322, "SpaceLinks$Router", "cut", "I", "SpaceLinks"), (RX10, 275, "SpaceLinks$Router", "empty", "I", "SpaceLinks"), (RX10, 303, "SpaceLinks$Router", "written", "I", "SpaceLinks"), (RX10, 306, "SpaceLinks$Router", "refused", "I", "SpaceLinks"), (RX1, 68, "SpaceLinks$Packet", "length", "I", "SpaceLinks"), (RX1, 62, "SpaceLinks$Packet", "whole", "Z", "SpaceLinks"), (RX1, 65, "SpaceLinks$Packet", "tick", "I", "SpaceLinks"), (RX10, 152, "SpaceLinks$End", "queue", "LSpaceLinks$Row;", "SpaceLinks"), (RX11, 103, "SpaceLinks$End", "queue", "LSpaceLinks$Row;", "SpaceLinks"), (RX10, 221, "SpaceLinks$End", "clock", "LSpaceLinks$Clock;", "SpaceLinks"), (RX11, 133, "SpaceLinks$End", "clock", "LSpaceLinks$Clock;", "SpaceLinks"), (RX10, 332, "SpaceLinks$End", "coming", "LSpaceLinks$Packet;", "SpaceLinks"), (RX11, 85, "SpaceLinks$End", "holds", "Z", "SpaceLinks"), (RX10, 325, "SpaceLinks$End", "holds", "Z", "SpaceLinks"), (RX10, 361, "SpaceLinks$End", "received", "I", "SpaceLinks"), (RX11, 215, "SpaceLinks$End", "received", "I", "SpaceLinks"), (RX10, 358, "SpaceLinks$End", "receivedWhole", "I", "SpaceLinks"), (RX10, 149, "SpaceLinks$End", "spilled", "I", "SpaceLinks"), (RX5, 9, "SpaceLinks$World", "sides", "[LSpaceLinks$Side;", "SpaceLinks"), (RX11, 27, "SpaceLinks$World", "sides", "[LSpaceLinks$Side;", "SpaceLinks"), (RX9, 79, "SpaceLinks$World", "sides", "[LSpaceLinks$Side;", "SpaceLinks"), (RX11, 158, "SpaceLinks$World", "inputs", "[LSpaceLinks$Input;", "SpaceLinks"), (RX5, 49, "SpaceLinks$World", "routers", "[LSpaceLinks$Router;", "SpaceLinks"), (RX9, 90, "SpaceLinks$World", "routers", "[LSpaceLinks$Router;", "SpaceLinks"), (RX11, 68, "SpaceLinks$World", "routers", "[LSpaceLinks$Router;", "SpaceLinks"), (RX11, 81, "SpaceLinks$World", "ends", "[LSpaceLinks$End;", "SpaceLinks"), (RX11, 199, "SpaceLinks$World", "log", "LSpaceLinks$Log;", "SpaceLinks"), (RX11, 230, "SpaceLinks$World", "sentKinds", "[I", "SpaceLinks"), (RX11, 90, "SpaceLinks$World", "tick", "I", "SpaceLinks"), (RX11, 56, "SpaceLinks$World", "watch", "I", "SpaceLinks"), (RX11, 59, "SpaceLinks$World", "odds", "I", "SpaceLinks"), (RX11, 62, "SpaceLinks$World", "draws", "I", "SpaceLinks"), (RX11, 112, "SpaceLinks$Tape", "cells", "[I", "SpaceLinks"), (RX11, 97, "SpaceLinks$Tape", "length", "I", "SpaceLinks"), (RX11, 124, "SpaceLinks$Tape", "fault", "I", "SpaceLinks"), (RX11, 127, "SpaceLinks$Tape", "place", "I", "SpaceLinks"), (RX11, 236, "SpaceLinks$Tape", "partners", "[I", "SpaceLinks"), (RX11, 239, "SpaceLinks$Tape", "tables", "[I", "SpaceLinks")]
def rk_nm : List (String × Nat × MethodName × String) := [(RX10, 37, yX3_init, "SpaceLinks"), (RX10, 50, yX8_init, "SpaceLinks"), (RX10, 51, yX2_init, "SpaceLinks"), (RX10, 52, yX6_init, "SpaceLinks"), (RX6, 17, yX0_init, "SpaceLinks"), (RX1, 22, yX0_init, "SpaceLinks"), (RX1, 33, yX4_init, "SpaceLinks"), (RX11, 18, yX9_init, "SpaceLinks"), (RX10, 96, yX11_isSocket, "SpaceLinks"), (RX6, 57, yX11_isAddress, "SpaceLinks"), (RX6, 61, yX11_isPortSet, "SpaceLinks"), (RX1, 71, yX11_bit, "SpaceLinks"), (RX8, 86, yX11_bit, "SpaceLinks"), (RX6, 68, yX11_bit, "SpaceLinks"), (RX4, 32, yX11_bit, "SpaceLinks"), (RX10, 364, yX11_bit, "SpaceLinks")]
def rk_strs : List (String × Nat × String × Nat) := [(RX9, 47, "cable", 0), (RX9, 73, "e", 2), (RX9, 56, "table", 1), (RX9, 100, "go", 3), (RX9, 102, "stay", 4), (RX12, 296, "cable", 0), (RX12, 273, "e", 2), (RX12, 301, "table", 1), (RX12, 288, "go", 3), (RX12, 290, "stay", 4)]
def rk_len : List Nat := [5, 5, 1, 2, 4]
def rk_byt : List (List Int32) := [[99, 97, 98, 108, 101], [116, 97, 98, 108, 101], [101], [103, 111], [115, 116, 97, 121]]
def rk_NU (base : Nat) (ad adV : Nat → Nat) (U : State) : Prop := rk_N rk_nf rk_nm U ∧ (∀ q ∈ rk_strs, vk_R q.1 q.2.1 q.2.2.1 (ad q.2.2.2) U) ∧ vk_S 5 rk_len rk_byt ad adV (fun q => base ≤ q) U U.heap
theorem rk_hNw (base : Nat) (ad adV : Nat → Nat) : ∀ (s U : State) (A : Nat → Prop) (locs : List Loc), (∀ q, A q → base ≤ q) → va_S A s.heap U.heap locs → s.WarmedH U.vm → rk_NU base ad adV s → rk_NU base ad adV U := by
  intro s U A locs hA hS hW ⟨h1, h2, h3⟩
  refine ⟨rk_N_warm hW h1, fun q hq => vk_R.warm hW (h2 q hq), ?_⟩
  exact (h3.moved hW.alike).kept (fun a ha hna => hS.2.1 a ha (fun h => hna (hA a h)))
theorem rk_hNc (base : Nat) (ad adV : Nat → Nat) : ∀ u U : State, u.vm = U.vm → u.heap = U.heap → rk_NU base ad adV u → rk_NU base ad adV U := by
  intro u U hv hh ⟨h1, h2, h3⟩
  refine ⟨rk_N_same hv h1, fun q hq => vk_R.same hv.symm (h2 q hq), ?_⟩
  have h4 := h3.moved (u := u) (U := U) (by rw [hv]; exact Vm.Alike.refl _)
  rw [hh] at h4
  exact h4
/-- the contract, with all that is fixed here -/
abbrev rk_Mc (base : Nat) (l : Launch) (cI c1 c2 c3 c4 c5 : ClassId) (D : va_G) (ad adV : Nat → Nat) (M : rk_Mt) (avs : List rk_AV) (alts : List rk_Alt) (C : Int) (pu : Bool) : Prop := rk_Met base l rk_K (rk_E ad) (rk_tys cI c1 c2 c3 c4 c5) D (rk_NU base ad adV) M avs alts C pu
theorem rk_inX0 : ∀ z ∈ u_ws RX0 TX0 3, z ∈ rk_tbl := by
  have h : u_ws RX0 TX0 3 = [356, 358, 360].filterMap (fun i => lw_tbl[i]?) := by decide +kernel
  have g : (u_ws RX0 TX0 3).all goodWord = true := by decide +kernel
  intro z hz
  refine List.mem_filter.mpr ⟨?_, List.all_eq_true.mp g z hz⟩
  rw [h] at hz
  obtain ⟨i, -, hi⟩ := List.mem_filterMap.mp hz
  exact List.mem_of_getElem? hi
theorem rk_inX1 : ∀ z ∈ u_ws RX1 TX1 8, z ∈ rk_tbl := by
  have h : u_ws RX1 TX1 8 = [455, 457, 459, 461, 463, 465, 467, 469].filterMap (fun i => lw_tbl[i]?) := by decide +kernel
  have g : (u_ws RX1 TX1 8).all goodWord = true := by decide +kernel
  intro z hz
  refine List.mem_filter.mpr ⟨?_, List.all_eq_true.mp g z hz⟩
  rw [h] at hz
  obtain ⟨i, -, hi⟩ := List.mem_filterMap.mp hz
  exact List.mem_of_getElem? hi
theorem rk_inX2 : ∀ z ∈ u_ws RX2 TX2 7, z ∈ rk_tbl := by
  have h : u_ws RX2 TX2 7 = [319, 321, 323, 325, 327, 329, 331].filterMap (fun i => lw_tbl[i]?) := by decide +kernel
  have g : (u_ws RX2 TX2 7).all goodWord = true := by decide +kernel
  intro z hz
  refine List.mem_filter.mpr ⟨?_, List.all_eq_true.mp g z hz⟩
  rw [h] at hz
  obtain ⟨i, -, hi⟩ := List.mem_filterMap.mp hz
  exact List.mem_of_getElem? hi
theorem rk_inX3 : ∀ z ∈ u_ws RX3 TX3 4, z ∈ rk_tbl := by
  have h : u_ws RX3 TX3 4 = [173, 175, 177, 179].filterMap (fun i => lw_tbl[i]?) := by decide +kernel
  have g : (u_ws RX3 TX3 4).all goodWord = true := by decide +kernel
  intro z hz
  refine List.mem_filter.mpr ⟨?_, List.all_eq_true.mp g z hz⟩
  rw [h] at hz
  obtain ⟨i, -, hi⟩ := List.mem_filterMap.mp hz
  exact List.mem_of_getElem? hi
theorem rk_inX4 : ∀ z ∈ u_ws RX4 TX4 4, z ∈ rk_tbl := by
  have h : u_ws RX4 TX4 4 = [427, 429, 431, 433].filterMap (fun i => lw_tbl[i]?) := by decide +kernel
  have g : (u_ws RX4 TX4 4).all goodWord = true := by decide +kernel
  intro z hz
  refine List.mem_filter.mpr ⟨?_, List.all_eq_true.mp g z hz⟩
  rw [h] at hz
  obtain ⟨i, -, hi⟩ := List.mem_filterMap.mp hz
  exact List.mem_of_getElem? hi
theorem rk_inX6 : ∀ z ∈ u_ws RX6 TX6 10, z ∈ rk_tbl := by
  have h : u_ws RX6 TX6 10 = [383, 385, 387, 389, 391, 393, 395, 397, 399, 401].filterMap (fun i => lw_tbl[i]?) := by decide +kernel
  have g : (u_ws RX6 TX6 10).all goodWord = true := by decide +kernel
  intro z hz
  refine List.mem_filter.mpr ⟨?_, List.all_eq_true.mp g z hz⟩
  rw [h] at hz
  obtain ⟨i, -, hi⟩ := List.mem_filterMap.mp hz
  exact List.mem_of_getElem? hi
theorem rk_inX7 : ∀ z ∈ u_ws RX7 TX7 3, z ∈ rk_tbl := by
  have h : u_ws RX7 TX7 3 = [204, 206, 208].filterMap (fun i => lw_tbl[i]?) := by decide +kernel
  have g : (u_ws RX7 TX7 3).all goodWord = true := by decide +kernel
  intro z hz
  refine List.mem_filter.mpr ⟨?_, List.all_eq_true.mp g z hz⟩
  rw [h] at hz
  obtain ⟨i, -, hi⟩ := List.mem_filterMap.mp hz
  exact List.mem_of_getElem? hi
theorem rk_inX8 : ∀ z ∈ u_ws RX8 TX8 20, z ∈ rk_tbl := by
  have h : u_ws RX8 TX8 20 = [259, 261, 263, 265, 267, 269, 271, 273, 275, 277, 279, 281, 283, 285, 287, 289, 291, 293, 295, 297].filterMap (fun i => lw_tbl[i]?) := by decide +kernel
  have g : (u_ws RX8 TX8 20).all goodWord = true := by decide +kernel
  intro z hz
  refine List.mem_filter.mpr ⟨?_, List.all_eq_true.mp g z hz⟩
  rw [h] at hz
  obtain ⟨i, -, hi⟩ := List.mem_filterMap.mp hz
  exact List.mem_of_getElem? hi
theorem rk_inX9 : ∀ z ∈ u_ws RX9 TX9 7, z ∈ rk_tbl := by
  have h : u_ws RX9 TX9 7 = [536, 538, 540, 542, 544, 546, 548].filterMap (fun i => lw_tbl[i]?) := by decide +kernel
  have g : (u_ws RX9 TX9 7).all goodWord = true := by decide +kernel
  intro z hz
  refine List.mem_filter.mpr ⟨?_, List.all_eq_true.mp g z hz⟩
  rw [h] at hz
  obtain ⟨i, -, hi⟩ := List.mem_filterMap.mp hz
  exact List.mem_of_getElem? hi
theorem rk_inX10 : ∀ z ∈ u_ws RX10 TX10 10, z ∈ rk_tbl := by
  have h : u_ws RX10 TX10 10 = [496, 498, 500, 502, 504, 506, 508, 510, 512, 514].filterMap (fun i => lw_tbl[i]?) := by decide +kernel
  have g : (u_ws RX10 TX10 10).all goodWord = true := by decide +kernel
  intro z hz
  refine List.mem_filter.mpr ⟨?_, List.all_eq_true.mp g z hz⟩
  rw [h] at hz
  obtain ⟨i, -, hi⟩ := List.mem_filterMap.mp hz
  exact List.mem_of_getElem? hi
theorem rk_inX11 : ∀ z ∈ u_ws RX11 TX11 4, z ∈ rk_tbl := by
  have h : u_ws RX11 TX11 4 = [555, 557, 559, 561].filterMap (fun i => lw_tbl[i]?) := by decide +kernel
  have g : (u_ws RX11 TX11 4).all goodWord = true := by decide +kernel
  intro z hz
  refine List.mem_filter.mpr ⟨?_, List.all_eq_true.mp g z hz⟩
  rw [h] at hz
  obtain ⟨i, -, hi⟩ := List.mem_filterMap.mp hz
  exact List.mem_of_getElem? hi
theorem rk_inX12 : ∀ z ∈ u_ws RX12 TX12 13, z ∈ rk_tbl := by
  have h : u_ws RX12 TX12 13 = [1171, 1173, 1175, 1177, 1179, 1181, 1183, 1185, 1187, 1189, 1191, 1193, 1195].filterMap (fun i => lw_tbl[i]?) := by decide +kernel
  have g : (u_ws RX12 TX12 13).all goodWord = true := by decide +kernel
  intro z hz
  refine List.mem_filter.mpr ⟨?_, List.all_eq_true.mp g z hz⟩
  rw [h] at hz
  obtain ⟨i, -, hi⟩ := List.mem_filterMap.mp hz
  exact List.mem_of_getElem? hi
end
section
/-! the tables' words by one decision each -/
def rk_tyl : List (Nat → FieldType) := [tyX0, tyX1, tyX2, tyX3, tyX4, tyX6, tyX7, tyX8, tyX9, tyX10, tyX11, tyX12]
def rk_ty (ci : Nat) : Nat → FieldType := rk_tyl.getD ci tyX0
theorem rk_clsOk : ∀ (ci : Nat) (C : String) (T : u_T) (N : Nat), vwCl[ci]? = some (C, T, N) → (∀ z ∈ u_ws C T N, z ∈ rk_tbl) ∧ (∀ j, j < N → parseFieldDescriptor (T j).2.2.1 = some (rk_ty ci j)) ∧ (∀ a, a < N → ∀ b, b < N → a ≠ b → (T a).2.1 ≠ (T b).2.1)
  | 0, _, _, _, h => by cases h; exact ⟨rk_inX0, tyX0_ok, nmX0⟩
  | 1, _, _, _, h => by cases h; exact ⟨rk_inX1, tyX1_ok, nmX1⟩
  | 2, _, _, _, h => by cases h; exact ⟨rk_inX2, tyX2_ok, nmX2⟩
  | 3, _, _, _, h => by cases h; exact ⟨rk_inX3, tyX3_ok, nmX3⟩
  | 4, _, _, _, h => by cases h; exact ⟨rk_inX4, tyX4_ok, nmX4⟩
  | 5, _, _, _, h => by cases h; exact ⟨rk_inX6, tyX6_ok, nmX6⟩
  | 6, _, _, _, h => by cases h; exact ⟨rk_inX7, tyX7_ok, nmX7⟩
  | 7, _, _, _, h => by cases h; exact ⟨rk_inX8, tyX8_ok, nmX8⟩
  | 8, _, _, _, h => by cases h; exact ⟨rk_inX9, tyX9_ok, nmX9⟩
  | 9, _, _, _, h => by cases h; exact ⟨rk_inX10, tyX10_ok, nmX10⟩
  | 10, _, _, _, h => by cases h; exact ⟨rk_inX11, tyX11_ok, nmX11⟩
  | 11, _, _, _, h => by cases h; exact ⟨rk_inX12, tyX12_ok, nmX12⟩
  | n + 12, _, _, _, h => by cases h
/-- one word of the tables at a place -/
def rk_tat (w : Jvm.Cond) (i : Nat) : Bool := decide (lw_tbl[i]? = some w) && goodWord w
theorem rk_tat_ok {w : Jvm.Cond} {i : Nat} (h : rk_tat w i = true) : w ∈ rk_tbl := by
  unfold rk_tat at h
  rw [Bool.and_eq_true, decide_eq_true_eq] at h
  exact rk_in_tbl i h.1 h.2
def rk_isO : FieldType → Bool
  | .object _ => true
  | _ => false
theorem rk_isO_ok {t : FieldType} (h : rk_isO t = true) : ∃ n, t = .object n := by
  cases t <;> first | exact ⟨_, rfl⟩ | cases h
def rk_fck (own : String) (q : Nat × Nat × Nat × Nat) (pl : Nat × Bool) : Bool :=
  match vwCl[q.2.1]? with
  | none => false
  | some c => Nat.blt q.2.2.1 c.2.2 && (if pl.2 then decide (rk_nf[pl.1]? = some (own, q.1, (c.2.1 q.2.2.1).1, (c.2.1 q.2.2.1).2.1, (c.2.1 q.2.2.1).2.2.1, "SpaceLinks")) else rk_tat (.fieldLink own q.1 (c.2.1 q.2.2.1).1 (c.2.1 q.2.2.1).2.1 (c.2.1 q.2.2.1).2.2.1) pl.1) &&
    (Nat.ble 3 q.2.2.2 || !(c.2.1 q.2.2.1).2.2.2) && (!Nat.beq q.2.2.2 0 || decide (rk_ty q.2.1 q.2.2.1 = .int)) && (!Nat.beq q.2.2.2 1 || decide (rk_ty q.2.1 q.2.2.1 = .boolean)) && (!Nat.beq q.2.2.2 2 || rk_isO (rk_ty q.2.1 q.2.2.1))
theorem rk_fck_ok {base : Nat} {ad adV : Nat → Nat} {s : State} {args : Array Value} {Ts : List Jvm.Cond} (hT : ∀ w ∈ rk_tbl, w ∈ Ts) (hts : ∀ w ∈ Ts, w.before args s = true) (hN : rk_NU base ad adV s) {own : String} {q : Nat × Nat × Nat × Nat} {pl : Nat × Bool} (h : rk_fck own q pl = true) : rk_F1 s args Ts own q := by
  obtain ⟨idx, ci, k, w⟩ := q
  unfold rk_fck at h
  dsimp only at h
  split at h
  · cases h
  · rename_i c hc
    obtain ⟨C, T, N⟩ := c
    dsimp only at h
    simp only [Bool.and_eq_true] at h
    obtain ⟨⟨⟨⟨⟨h1, h2⟩, h3⟩, h4⟩, h5⟩, h6⟩ := h
    obtain ⟨g1, g2, g3⟩ := rk_clsOk ci C T N hc
    have h1 : k < N := by rw [Nat.blt_eq] at h1; exact h1
    refine ⟨C, T, N, rk_ty ci, hc, h1, fun z hz => hT z (g1 z hz), g2, g3, ?_, ?_, ?_, ?_, ?_⟩
    · split at h2
      · exact Or.inr ⟨"SpaceLinks", va_Nw.use rfl (hN.1.1 _ (List.mem_of_getElem? (of_decide_eq_true h2)))⟩
      · exact Or.inl (hts _ (hT _ (rk_tat_ok h2)))
    · intro hw
      rcases Bool.or_eq_true _ _ ▸ h3 with h | h
      · rw [Nat.ble_eq] at h
        exact absurd hw (by dsimp only; omega)
      · simpa using h
    · intro hw
      dsimp only at hw
      subst hw
      simpa using h4
    · intro hw
      dsimp only at hw
      subst hw
      simpa using h5
    · intro hw
      dsimp only at hw
      subst hw
      exact rk_isO_ok (by simpa using h6)
def rk_fcks (own : String) : List (Nat × Nat × Nat × Nat) → List (Nat × Bool) → Bool
  | [], _ => true
  | q :: l, p :: m => rk_fck own q p && rk_fcks own l m
  | _ :: _, [] => false
theorem rk_fcks_ok {base : Nat} {ad adV : Nat → Nat} {s : State} {args : Array Value} {Ts : List Jvm.Cond} (hT : ∀ w ∈ rk_tbl, w ∈ Ts) (hts : ∀ w ∈ Ts, w.before args s = true) (hN : rk_NU base ad adV s) {own : String} : ∀ (l : List (Nat × Nat × Nat × Nat)) (m : List (Nat × Bool)), rk_fcks own l m = true → ∀ q ∈ l, rk_F1 s args Ts own q
  | [], _, _ => fun _ h => absurd h List.not_mem_nil
  | q :: l, p :: m, h => by
    unfold rk_fcks at h
    rw [Bool.and_eq_true] at h
    exact List.forall_mem_cons.mpr ⟨rk_fck_ok hT hts hN h.1, rk_fcks_ok hT hts hN l m h.2⟩
  | _ :: _, [], h => by cases h
/-- a call's words but its code: the places of initialized, of the link, of static or instanceMethod, of selects -/
def rk_mck (own : String) (idx : Nat) (M : rk_Mt) (n cr : Nat) (p1 : Nat) (p2 : Nat × Bool) (p3 p4 : Nat) : Bool :=
  rk_tat (.initialized M.1.cls) p1 && !decide (M.1.cls = "java/lang/invoke/MethodHandle") && !decide (M.1.cls = "java/lang/invoke/VarHandle") &&
  (if p2.2 then decide (rk_nm[p2.1]? = some (own, idx, M.1, "SpaceLinks")) else rk_tat (.methodLink own idx M.1) p2.1) &&
  (match cr with
   | 0 => rk_tat (.static M.1) p3 && decide ((parseMethodDescriptor M.1.desc).map (fun d => d.parameters.length) = some n)
   | ci + 1 => rk_tat (.instanceMethod M.1) p3 && rk_tat (.selects M.1.cls M.1 M.1) p4 && decide ((vwCl[ci]?).map (fun q => q.1) = some M.1.cls) && Nat.ble 1 n && decide ((parseMethodDescriptor M.1.desc).map (fun d => d.parameters.length) = some (n - 1)))
theorem rk_mck_ok {base : Nat} {ad adV : Nat → Nat} {s : State} {args : Array Value} {Ts : List Jvm.Cond} (hT : ∀ w ∈ rk_tbl, w ∈ Ts) (hts : ∀ w ∈ Ts, w.before args s = true) (hN : rk_NU base ad adV s) {own : String} {idx : Nat} {M : rk_Mt} {n cr p1 : Nat} {p2 : Nat × Bool} {p3 p4 : Nat} (hc : Jvm.Cond.code M.1 M.2.1 M.2.2.1 M.2.2.2.1 ∈ rk_tbl) (h : rk_mck own idx M n cr p1 p2 p3 p4 = true) : rk_M1 s args own idx M n cr := by
  unfold rk_mck at h
  simp only [Bool.and_eq_true] at h
  obtain ⟨⟨⟨⟨h1, h2⟩, h3⟩, h4⟩, h5⟩ := h
  have use : ∀ {w : Jvm.Cond} {i : Nat}, rk_tat w i = true → w.before args s = true := fun h => hts _ (hT _ (rk_tat_ok h))
  refine ⟨hc, use h1, ⟨by simpa using h2, by simpa using h3⟩, ?_, ?_, ?_⟩
  · split at h4
    · exact Or.inr ⟨"SpaceLinks", hN.1.2 _ (List.mem_of_getElem? (of_decide_eq_true h4))⟩
    · exact Or.inl (use h4)
  · intro hr
    subst hr
    dsimp only at h5
    rw [Bool.and_eq_true] at h5
    exact ⟨use h5.1, of_decide_eq_true h5.2⟩
  · intro ci hr
    subst hr
    dsimp only at h5
    simp only [Bool.and_eq_true] at h5
    obtain ⟨⟨⟨⟨g1, g2⟩, g3⟩, g4⟩, g5⟩ := h5
    have g3 := of_decide_eq_true g3
    rw [Nat.ble_eq] at g4
    refine ⟨use g1, use g2, ?_, n - 1, by omega, of_decide_eq_true g5⟩
    cases hq : vwCl[ci]? with
    | none => rw [hq] at g3; cases g3
    | some q => rw [hq] at g3; exact ⟨q, rfl, by simpa using g3⟩
end
section
section RKL
variable {base : Nat} {ad adV : Nat → Nat}
def rk_ftX11 : List (Nat × Nat × Nat × Nat) := [(12, 10, 0, 3), (19, 10, 1, 3), (27, 9, 0, 3), (31, 7, 4, 0), (45, 7, 5, 1), (49, 7, 6, 1), (56, 9, 7, 0), (59, 9, 8, 0), (62, 9, 9, 0), (68, 9, 2, 3), (81, 9, 3, 3), (85, 1, 4, 1), (90, 9, 6, 0), (97, 8, 1, 0), (103, 1, 0, 3), (107, 6, 2, 0), (112, 8, 0, 3), (124, 8, 2, 0), (127, 8, 3, 0), (130, 7, 1, 0), (133, 1, 1, 3), (143, 0, 0, 0), (146, 7, 10, 0), (152, 7, 0, 3), (158, 9, 1, 3), (199, 9, 4, 3), (208, 10, 3, 2), (215, 1, 5, 0), (222, 10, 2, 2), (227, 3, 3, 0), (230, 9, 5, 3), (236, 8, 5, 3), (239, 8, 6, 3), (242, 5, 0, 3)]
theorem rk_fcX11 : rk_fcks RX11 rk_ftX11 [(551, false), (552, false), (73, true), (12, true), (16, true), (18, true), (83, true), (84, true), (85, true), (78, true), (79, true), (66, true), (82, true), (87, true), (62, true), (3, true), (86, true), (88, true), (89, true), (8, true), (64, true), (42, true), (23, true), (6, true), (75, true), (80, true), (554, false), (69, true), (553, false), (0, true), (81, true), (90, true), (91, true), (48, true)] = true := by decide +kernel
theorem rk_flX11 {s : State} {args : Array Value} {Ts : List Jvm.Cond} (hT : ∀ w ∈ rk_tbl, w ∈ Ts) (hts : ∀ w ∈ Ts, w.before args s = true) (hN : rk_NU base ad adV s) : rk_FlOk s args Ts RX11 (rk_flf rk_ftX11) := rk_FlOk_of (rk_fcks_ok hT hts hN _ _ rk_fcX11)
def rk_ftX12 : List (Nat × Nat × Nat × Nat) := [(7, 11, 1, 3), (13, 11, 2, 3), (16, 11, 3, 3), (19, 11, 6, 0), (23, 11, 10, 3), (26, 11, 12, 3), (29, 11, 0, 0), (227, 11, 4, 0), (236, 11, 7, 0), (239, 11, 8, 0), (245, 11, 9, 1), (249, 11, 5, 0), (330, 11, 11, 1)]
theorem rk_fcX12 : rk_fcks RX12 rk_ftX12 [(1159, false), (1160, false), (1161, false), (1164, false), (1168, false), (1170, false), (1158, false), (1162, false), (1165, false), (1166, false), (1167, false), (1163, false), (1169, false)] = true := by decide +kernel
theorem rk_flX12 {s : State} {args : Array Value} {Ts : List Jvm.Cond} (hT : ∀ w ∈ rk_tbl, w ∈ Ts) (hts : ∀ w ∈ Ts, w.before args s = true) (hN : rk_NU base ad adV s) : rk_FlOk s args Ts RX12 (rk_flf rk_ftX12) := rk_FlOk_of (rk_fcks_ok hT hts hN _ _ rk_fcX12)
def rk_ftX0 : List (Nat × Nat × Nat × Nat) := [(9, 0, 0, 0), (15, 0, 1, 0), (18, 0, 2, 0)]
theorem rk_fcX0 : rk_fcks RX0 rk_ftX0 [(345, false), (350, false), (353, false)] = true := by decide +kernel
theorem rk_flX0 {s : State} {args : Array Value} {Ts : List Jvm.Cond} (hT : ∀ w ∈ rk_tbl, w ∈ Ts) (hts : ∀ w ∈ Ts, w.before args s = true) (hN : rk_NU base ad adV s) : rk_FlOk s args Ts RX0 (rk_flf rk_ftX0) := rk_FlOk_of (rk_fcks_ok hT hts hN _ _ rk_fcX0)
def rk_ftX1 : List (Nat × Nat × Nat × Nat) := [(16, 1, 0, 3), (23, 1, 1, 3), (29, 1, 2, 3), (34, 1, 3, 2), (48, 1, 4, 1), (52, 1, 5, 0), (56, 1, 6, 0), (59, 1, 7, 0), (62, 4, 2, 1), (65, 4, 3, 0), (68, 4, 1, 0), (75, 6, 2, 0), (78, 0, 0, 0), (81, 0, 1, 0), (84, 0, 2, 0)]
theorem rk_fcX1 : rk_fcks RX1 rk_ftX1 [(436, false), (439, false), (442, false), (443, false), (445, false), (448, false), (451, false), (453, false), (59, true), (60, true), (58, true), (2, true), (40, true), (44, true), (46, true)] = true := by decide +kernel
theorem rk_flX1 {s : State} {args : Array Value} {Ts : List Jvm.Cond} (hT : ∀ w ∈ rk_tbl, w ∈ Ts) (hts : ∀ w ∈ Ts, w.before args s = true) (hN : rk_NU base ad adV s) : rk_FlOk s args Ts RX1 (rk_flf rk_ftX1) := rk_FlOk_of (rk_fcks_ok hT hts hN _ _ rk_fcX1)
def rk_ftX2 : List (Nat × Nat × Nat × Nat) := [(11, 2, 0, 3), (15, 2, 3, 0), (19, 2, 4, 0), (22, 2, 5, 0), (31, 2, 1, 0), (34, 2, 2, 1), (38, 2, 6, 0)]
theorem rk_fcX2 : rk_fcks RX2 rk_ftX2 [(305, false), (311, false), (313, false), (315, false), (307, false), (309, false), (317, false)] = true := by decide +kernel
theorem rk_flX2 {s : State} {args : Array Value} {Ts : List Jvm.Cond} (hT : ∀ w ∈ rk_tbl, w ∈ Ts) (hts : ∀ w ∈ Ts, w.before args s = true) (hN : rk_NU base ad adV s) : rk_FlOk s args Ts RX2 (rk_flf rk_ftX2) := rk_FlOk_of (rk_fcks_ok hT hts hN _ _ rk_fcX2)
def rk_ftX3 : List (Nat × Nat × Nat × Nat) := [(11, 3, 0, 3), (15, 3, 1, 3), (18, 3, 2, 3), (27, 3, 3, 0)]
theorem rk_fcX3 : rk_fcks RX3 rk_ftX3 [(168, false), (169, false), (170, false), (171, false)] = true := by decide +kernel
theorem rk_flX3 {s : State} {args : Array Value} {Ts : List Jvm.Cond} (hT : ∀ w ∈ rk_tbl, w ∈ Ts) (hts : ∀ w ∈ Ts, w.before args s = true) (hN : rk_NU base ad adV s) : rk_FlOk s args Ts RX3 (rk_flf rk_ftX3) := rk_FlOk_of (rk_fcks_ok hT hts hN _ _ rk_fcX3)
def rk_ftX4 : List (Nat × Nat × Nat × Nat) := [(11, 4, 0, 3), (15, 4, 1, 0), (19, 4, 2, 1), (23, 4, 3, 0)]
theorem rk_fcX4 : rk_fcks RX4 rk_ftX4 [(420, false), (421, false), (423, false), (425, false)] = true := by decide +kernel
theorem rk_flX4 {s : State} {args : Array Value} {Ts : List Jvm.Cond} (hT : ∀ w ∈ rk_tbl, w ∈ Ts) (hts : ∀ w ∈ Ts, w.before args s = true) (hN : rk_NU base ad adV s) : rk_FlOk s args Ts RX4 (rk_flf rk_ftX4) := rk_FlOk_of (rk_fcks_ok hT hts hN _ _ rk_fcX4)
def rk_ftX5 : List (Nat × Nat × Nat × Nat) := [(9, 9, 0, 3), (15, 7, 4, 0), (49, 9, 2, 3)]
theorem rk_fcX5 : rk_fcks RX5 rk_ftX5 [(72, true), (11, true), (76, true)] = true := by decide +kernel
theorem rk_flX5 {s : State} {args : Array Value} {Ts : List Jvm.Cond} (hT : ∀ w ∈ rk_tbl, w ∈ Ts) (hts : ∀ w ∈ Ts, w.before args s = true) (hN : rk_NU base ad adV s) : rk_FlOk s args Ts RX5 (rk_flf rk_ftX5) := rk_FlOk_of (rk_fcks_ok hT hts hN _ _ rk_fcX5)
def rk_ftX6 : List (Nat × Nat × Nat × Nat) := [(9, 5, 0, 3), (18, 5, 1, 3), (22, 5, 2, 0), (36, 5, 3, 0), (39, 5, 4, 0), (42, 5, 5, 0), (45, 5, 6, 0), (48, 5, 7, 0), (51, 5, 8, 0), (54, 5, 9, 0), (72, 0, 0, 0), (75, 0, 1, 0), (78, 0, 2, 0)]
theorem rk_fcX6 : rk_fcks RX6 rk_ftX6 [(363, false), (365, false), (367, false), (369, false), (371, false), (373, false), (375, false), (377, false), (379, false), (381, false), (41, true), (45, true), (47, true)] = true := by decide +kernel
theorem rk_flX6 {s : State} {args : Array Value} {Ts : List Jvm.Cond} (hT : ∀ w ∈ rk_tbl, w ∈ Ts) (hts : ∀ w ∈ Ts, w.before args s = true) (hN : rk_NU base ad adV s) : rk_FlOk s args Ts RX6 (rk_flf rk_ftX6) := rk_FlOk_of (rk_fcks_ok hT hts hN _ _ rk_fcX6)
def rk_ftX7 : List (Nat × Nat × Nat × Nat) := [(15, 6, 0, 3), (21, 6, 1, 0), (25, 6, 2, 0)]
theorem rk_fcX7 : rk_fcks RX7 rk_ftX7 [(197, false), (198, false), (199, false)] = true := by decide +kernel
theorem rk_flX7 {s : State} {args : Array Value} {Ts : List Jvm.Cond} (hT : ∀ w ∈ rk_tbl, w ∈ Ts) (hts : ∀ w ∈ Ts, w.before args s = true) (hN : rk_NU base ad adV s) : rk_FlOk s args Ts RX7 (rk_flf rk_ftX7) := rk_FlOk_of (rk_fcks_ok hT hts hN _ _ rk_fcX7)
def rk_ftX8 : List (Nat × Nat × Nat × Nat) := [(16, 7, 0, 3), (20, 7, 1, 0), (24, 7, 4, 0), (27, 7, 6, 1), (31, 7, 9, 0), (34, 7, 10, 0), (41, 7, 2, 0), (44, 7, 3, 0), (47, 7, 5, 1), (50, 7, 7, 0), (53, 7, 8, 0), (56, 7, 11, 1), (59, 7, 12, 1), (62, 7, 13, 1), (65, 7, 14, 1), (68, 7, 15, 0), (71, 7, 16, 0), (74, 7, 17, 0), (77, 7, 18, 0), (80, 7, 19, 0), (83, 6, 2, 0)]
theorem rk_fcX8 : rk_fcks RX8 rk_ftX8 [(211, false), (214, false), (221, false), (229, false), (236, false), (238, false), (217, false), (219, false), (226, false), (232, false), (234, false), (241, false), (243, false), (245, false), (247, false), (249, false), (251, false), (253, false), (255, false), (257, false), (1, true)] = true := by decide +kernel
theorem rk_flX8 {s : State} {args : Array Value} {Ts : List Jvm.Cond} (hT : ∀ w ∈ rk_tbl, w ∈ Ts) (hts : ∀ w ∈ Ts, w.before args s = true) (hN : rk_NU base ad adV s) : rk_FlOk s args Ts RX8 (rk_flf rk_ftX8) := rk_FlOk_of (rk_fcks_ok hT hts hN _ _ rk_fcX8)
def rk_ftX9 : List (Nat × Nat × Nat × Nat) := [(11, 8, 0, 3), (15, 8, 3, 0), (19, 8, 5, 3), (22, 8, 6, 3), (25, 8, 1, 0), (28, 8, 2, 0), (31, 8, 4, 0), (79, 9, 0, 3), (85, 7, 4, 0), (90, 9, 2, 3)]
theorem rk_fcX9 : rk_fcks RX9 rk_ftX9 [(523, false), (529, false), (532, false), (534, false), (525, false), (527, false), (531, false), (74, true), (14, true), (77, true)] = true := by decide +kernel
theorem rk_flX9 {s : State} {args : Array Value} {Ts : List Jvm.Cond} (hT : ∀ w ∈ rk_tbl, w ∈ Ts) (hts : ∀ w ∈ Ts, w.before args s = true) (hN : rk_NU base ad adV s) : rk_FlOk s args Ts RX9 (rk_flf rk_ftX9) := rk_FlOk_of (rk_fcks_ok hT hts hN _ _ rk_fcX9)
def rk_ftX10 : List (Nat × Nat × Nat × Nat) := [(11, 9, 0, 3), (19, 9, 1, 3), (25, 9, 2, 3), (31, 9, 3, 3), (38, 9, 4, 3), (42, 9, 5, 3), (46, 9, 7, 0), (76, 9, 6, 0), (79, 9, 8, 0), (82, 9, 9, 0), (85, 7, 4, 0), (88, 7, 5, 1), (100, 7, 6, 1), (103, 7, 1, 0), (113, 7, 9, 0), (116, 7, 15, 0), (123, 7, 7, 0), (126, 7, 8, 0), (129, 7, 10, 0), (132, 7, 11, 1), (135, 7, 13, 1), (138, 7, 0, 3), (146, 7, 14, 1), (149, 1, 7, 0), (152, 1, 0, 3), (158, 2, 5, 0), (175, 5, 2, 0), (191, 2, 3, 0), (194, 2, 6, 0), (197, 7, 3, 0), (200, 7, 12, 1), (207, 7, 17, 0), (221, 1, 1, 3), (230, 5, 1, 3), (231, 7, 19, 0), (234, 7, 16, 0), (237, 7, 2, 0), (246, 2, 2, 1), (260, 6, 2, 0), (275, 5, 7, 0), (278, 5, 4, 0), (284, 5, 5, 0), (291, 2, 4, 0), (297, 5, 3, 0), (303, 5, 8, 0), (306, 5, 9, 0), (309, 2, 0, 3), (312, 2, 1, 0), (319, 0, 0, 0), (322, 5, 6, 0), (325, 1, 4, 1), (332, 1, 3, 2), (352, 7, 18, 0), (358, 1, 6, 0), (361, 1, 5, 0)]
theorem rk_fcX10 : rk_fcks RX10 rk_ftX10 [(472, false), (476, false), (478, false), (482, false), (484, false), (486, false), (490, false), (488, false), (492, false), (494, false), (13, true), (15, true), (17, true), (7, true), (21, true), (28, true), (19, true), (20, true), (22, true), (24, true), (26, true), (5, true), (27, true), (71, true), (61, true), (38, true), (50, true), (36, true), (39, true), (10, true), (25, true), (30, true), (63, true), (49, true), (32, true), (29, true), (9, true), (35, true), (4, true), (55, true), (52, true), (53, true), (37, true), (51, true), (56, true), (57, true), (33, true), (34, true), (43, true), (54, true), (67, true), (65, true), (31, true), (70, true), (68, true)] = true := by decide +kernel
theorem rk_flX10 {s : State} {args : Array Value} {Ts : List Jvm.Cond} (hT : ∀ w ∈ rk_tbl, w ∈ Ts) (hts : ∀ w ∈ Ts, w.before args s = true) (hN : rk_NU base ad adV s) : rk_FlOk s args Ts RX10 (rk_flf rk_ftX10) := rk_FlOk_of (rk_fcks_ok hT hts hN _ _ rk_fcX10)
end RKL
end
section
/-! a run over known things: trees -/
/-- (0, a, _): the number a (without sign); (1, k, c): number k of the script and c; (2, k, m): number k of the script, masked by m; (3, _, _): any number; (4, i, _): the i-th thing; (5, _, _): null; (6, _, _): the script; else nothing -/
abbrev rs_V : Type := Nat × Nat × Nat
/-- (class, fields' number, fields); (16, length, numbers); (16 + array class, length, places); else nothing -/
abbrev rs_O : Type := Nat × Nat × Lean.RArray rs_V
abbrev rs_H : Type := Lean.RArray rs_O
/-- things, their number, cells and slots made -/
abbrev rs_W : Type := rs_H × Nat × Nat × Nat
/-- for each number of the script: from, to (each 2^31 more), what is known of its lowest bits -/
abbrev rs_E : Type := List (Nat × Nat × Nat)
/-- an instruction: its place, its kind, three numbers, more -/
abbrev rs_I : Type := Nat × Nat × Nat × Nat × Nat × List Nat
noncomputable def rt_g {α : Type} (t : Lean.RArray α) : Nat → α :=
  @Lean.RArray.rec α (fun _ => Nat → α) (fun x _ => x) (fun _ _ _ gl gr i => @Bool.rec (fun _ => α) (gr (Nat.div i 2)) (gl (Nat.div i 2)) (Nat.beq (Nat.mod i 2) 0)) t
noncomputable def rt_s {α : Type} (v : α) (d : Nat) : Nat → Lean.RArray α → (Lean.RArray α → Bool) → Bool :=
  @Nat.rec (fun _ => Nat → Lean.RArray α → (Lean.RArray α → Bool) → Bool) (fun _ _ k => k (.leaf v))
    (fun _ ih i t k => @Lean.RArray.rec α (fun _ => Bool)
      (fun x => @Bool.rec (fun _ => Bool) (ih (Nat.div i 2) (.leaf x) (fun r => k (.branch 0 (.leaf x) r))) (ih (Nat.div i 2) (.leaf x) (fun l => k (.branch 0 l (.leaf x)))) (Nat.beq (Nat.mod i 2) 0))
      (fun p l r _ _ => @Bool.rec (fun _ => Bool) (ih (Nat.div i 2) r (fun r' => k (.branch p l r'))) (ih (Nat.div i 2) l (fun l' => k (.branch p l' r))) (Nat.beq (Nat.mod i 2) 0)) t) d
/-- a number as such -/
noncomputable def rs_nf (x : Nat) (k : Nat → Bool) : Bool := @Nat.rec (fun _ => Bool) (k 0) (fun m _ => k (Nat.succ m)) x
noncomputable def rs_ln (lo : List rs_V) : Nat → rs_V := @List.rec rs_V (fun _ => Nat → rs_V) (fun _ => (9, 0, 0)) (fun v _ ih i => @Nat.rec (fun _ => rs_V) v (fun j _ => ih j) i) lo
noncomputable def rs_ls (v : rs_V) (i : Nat) : List rs_V → (List rs_V → Bool) → Bool :=
  @Nat.rec (fun _ => List rs_V → (List rs_V → Bool) → Bool) (fun lo k => @List.rec rs_V (fun _ => Bool) (k [v]) (fun _ t _ => k (v :: t)) lo)
    (fun _ ih lo k => @List.rec rs_V (fun _ => Bool) (ih [] (fun t => k ((9, 0, 0) :: t))) (fun x t _ => ih t (fun t' => k (x :: t'))) lo) i
noncomputable def rs_eg (en : rs_E) : Nat → Nat × Nat × Nat := @List.rec _ (fun _ => Nat → Nat × Nat × Nat) (fun _ => (0, 4294967295, 0)) (fun v _ ih i => @Nat.rec (fun _ => Nat × Nat × Nat) v (fun j _ => ih j) i) en
noncomputable def rs_es (v : Nat × Nat × Nat) (i : Nat) : rs_E → (rs_E → Bool) → Bool :=
  @Nat.rec (fun _ => rs_E → (rs_E → Bool) → Bool) (fun en k => @List.rec _ (fun _ => Bool) (k []) (fun _ t _ => k (v :: t)) en)
    (fun _ ih en k => @List.rec _ (fun _ => Bool) (k []) (fun x t _ => ih t (fun t' => k (x :: t'))) en) i
/-- one number alone, of the wrong parity: it can't be -/
noncomputable def rs_bad (lo hi pa : Nat) : Bool := (@Bool.rec (fun _ => Bool) false (@Bool.rec (fun _ => Bool) (@Bool.rec (fun _ => Bool) false (Nat.beq (Nat.mod lo 2) 0) (Nat.beq pa 2)) (Nat.beq (Nat.mod lo 2) 1) (Nat.beq pa 1)) (Nat.beq lo hi))
noncomputable def rs_ek (lo hi pa a : Nat) (en : rs_E) (k : rs_E → Bool) : Bool := (@Bool.rec (fun _ => Bool) (rs_es (lo, hi, pa) a en k) true (rs_bad lo hi pa))
/-- what a number of the script is, if it is known -/
noncomputable def rs_res (en : rs_E) (v : rs_V) (k : rs_V → Bool) : Bool := (@Bool.rec (fun _ => Bool) (k v) (@Prod.rec _ _ (fun _ => Bool) (fun lo r_lo => (@Prod.rec _ _ (fun _ => Bool) (fun hi _pa => (@Bool.rec (fun _ => Bool) (k v) (rs_nf (Nat.mod (Nat.add (Nat.add lo 2147483648) v.2.2) 4294967296) (fun x => k (0, x, 0))) (Nat.beq lo hi))) r_lo)) (rs_eg en v.2.1)) (Nat.beq v.1 1))
/-- number a of the script and c is less than b (each 2^31 more) -/
noncomputable def rs_lt (en : rs_E) (a c b : Nat) (kT kF : rs_E → Bool) : Bool := (@Prod.rec _ _ (fun _ => Bool) (fun lo r_lo => (@Prod.rec _ _ (fun _ => Bool) (fun hi pa => (@Bool.rec (fun _ => Bool) false (@Bool.rec (fun _ => Bool) (@Bool.rec (fun _ => Bool) (kT en) (rs_nf (Nat.add lo (Nat.sub b (Nat.mod (Nat.add lo c) 4294967296))) (fun t => (@Bool.rec (fun _ => Bool) false (rs_ek t hi pa a en kF) (rs_nf (Nat.sub t 1) (fun t1 => rs_ek lo t1 pa a en kT))))) (Nat.ble b (Nat.mod (Nat.add hi c) 4294967296))) (kF en) (Nat.ble b (Nat.mod (Nat.add lo c) 4294967296))) (Nat.beq (Nat.div (Nat.add lo c) 4294967296) (Nat.div (Nat.add hi c) 4294967296)))) r_lo)) (rs_eg en a))
noncomputable def rs_eq (en : rs_E) (a c b : Nat) (kT kF : rs_E → Bool) : Bool := (@Prod.rec _ _ (fun _ => Bool) (fun lo r_lo => (@Prod.rec _ _ (fun _ => Bool) (fun hi pa => (@Bool.rec (fun _ => Bool) false (@Bool.rec (fun _ => Bool) (kF en) (rs_nf (Nat.add lo (Nat.sub b (Nat.mod (Nat.add lo c) 4294967296))) (fun t => (@Bool.rec (fun _ => Bool) false (@Bool.rec (fun _ => Bool) false (@Bool.rec (fun _ => Bool) (rs_nf (Nat.add t 1) (fun t1 => rs_ek t1 hi pa a en kF)) true (Nat.beq t hi)) (@Bool.rec (fun _ => Bool) (rs_nf (Nat.sub t 1) (fun t1 => rs_ek lo t1 pa a en kF)) true (Nat.beq t lo))) (rs_ek t t pa a en kT)))) (@Bool.rec (fun _ => Bool) false (Nat.ble b (Nat.mod (Nat.add hi c) 4294967296)) (Nat.ble (Nat.mod (Nat.add lo c) 4294967296) b))) (Nat.beq (Nat.div (Nat.add lo c) 4294967296) (Nat.div (Nat.add hi c) 4294967296)))) r_lo)) (rs_eg en a))
noncomputable def rs_all (f : Nat → Bool) (n : Nat) : Nat → Bool := @Nat.rec (fun _ => Nat → Bool) (fun _ => true) (fun _ ih v => (@Bool.rec (fun _ => Bool) false (rs_nf (Nat.add v 1) (fun u => ih u)) (f v))) n
/-- number a of the script is each of what it may be -/
noncomputable def rs_sp (en : rs_E) (a : Nat) (kk : rs_E → Bool) : Bool := (@Prod.rec _ _ (fun _ => Bool) (fun lo r_lo => (@Prod.rec _ _ (fun _ => Bool) (fun hi pa => (@Bool.rec (fun _ => Bool) false (rs_all (fun v => rs_ek v v pa a en kk) (Nat.add (Nat.sub hi lo) 1) lo) (Nat.ble (Nat.sub hi lo) 300))) r_lo)) (rs_eg en a))
def rs_bi (x : Nat) : Nat := Nat.mod (Nat.add x 2147483648) 4294967296
noncomputable def rs_tst (cd x y : Nat) : Bool := (@Bool.rec (fun _ => Bool) (@Bool.rec (fun _ => Bool) (@Bool.rec (fun _ => Bool) (@Bool.rec (fun _ => Bool) (@Bool.rec (fun _ => Bool) (Nat.ble x y) (@Bool.rec (fun _ => Bool) true false (Nat.ble x y)) (Nat.beq cd 4)) (Nat.ble y x) (Nat.beq cd 3)) (@Bool.rec (fun _ => Bool) true false (Nat.ble y x)) (Nat.beq cd 2)) (@Bool.rec (fun _ => Bool) true false (Nat.beq x y)) (Nat.beq cd 1)) (Nat.beq x y) (Nat.beq cd 0))
/-- number a of the script and c against the number b -/
noncomputable def rs_cs (en : rs_E) (cd a c b : Nat) (kT kF : rs_E → Bool) : Bool := (@Bool.rec (fun _ => Bool) (@Bool.rec (fun _ => Bool) (@Bool.rec (fun _ => Bool) (@Bool.rec (fun _ => Bool) (@Bool.rec (fun _ => Bool) (rs_lt en a c (Nat.add b 1) kT kF) (rs_lt en a c (Nat.add b 1) kF kT) (Nat.beq cd 4)) (rs_lt en a c b kF kT) (Nat.beq cd 3)) (rs_lt en a c b kT kF) (Nat.beq cd 2)) (rs_eq en a c b kF kT) (Nat.beq cd 1)) (rs_eq en a c b kT kF) (Nat.beq cd 0))
def rs_sw (cd : Nat) : Nat := match cd with
  | 0 => 0
  | 1 => 1
  | 2 => 4
  | 3 => 5
  | 4 => 2
  | _ => 3
noncomputable def rs_cmp2 (en : rs_E) (cd : Nat) (x y : rs_V) (kT kF : rs_E → Bool) (ks : Nat → Bool) : Bool := (@Bool.rec (fun _ => Bool) (@Bool.rec (fun _ => Bool) (@Bool.rec (fun _ => Bool) (@Bool.rec (fun _ => Bool) false (@Bool.rec (fun _ => Bool) false (@Bool.rec (fun _ => Bool) false (kF en) (kT en)) (Nat.ble y.1 3)) (Nat.beq x.1 3)) (@Bool.rec (fun _ => Bool) false (@Bool.rec (fun _ => Bool) false (@Bool.rec (fun _ => Bool) false (@Bool.rec (fun _ => Bool) false (@Prod.rec _ _ (fun _ => Bool) (fun lo r_lo => (@Prod.rec _ _ (fun _ => Bool) (fun hi pa => (@Bool.rec (fun _ => Bool) (@Bool.rec (fun _ => Bool) (@Bool.rec (fun _ => Bool) false (@Bool.rec (fun _ => Bool) (@Bool.rec (fun _ => Bool) false (rs_es (lo, hi, 2) x.2.1 en kT) (rs_es (lo, hi, 1) x.2.1 en kF)) (@Bool.rec (fun _ => Bool) false (rs_es (lo, hi, 2) x.2.1 en kF) (rs_es (lo, hi, 1) x.2.1 en kT)) (Nat.beq cd 0)) (Nat.beq pa 0)) (@Bool.rec (fun _ => Bool) (kT en) (kF en) (Nat.beq cd 0)) (Nat.beq pa 2)) (@Bool.rec (fun _ => Bool) (kF en) (kT en) (Nat.beq cd 0)) (Nat.beq pa 1))) r_lo)) (rs_eg en x.2.1)) (Nat.ble cd 1)) (Nat.beq x.2.2 1)) (Nat.beq y.2.1 0)) (Nat.beq y.1 0)) (Nat.beq x.1 2)) (@Bool.rec (fun _ => Bool) (@Bool.rec (fun _ => Bool) false (ks x.2.1) (Nat.beq y.1 1)) (rs_cs en cd x.2.1 x.2.2 (rs_bi y.2.1) kT kF) (Nat.beq y.1 0)) (Nat.beq x.1 1)) (@Bool.rec (fun _ => Bool) false (rs_cs en (rs_sw cd) y.2.1 y.2.2 (rs_bi x.2.1) kT kF) (Nat.beq y.1 1)) (Nat.beq x.1 0))
noncomputable def rs_cmp (en : rs_E) (cd : Nat) (x y : rs_V) (kT kF : rs_E → Bool) (ks : Nat → Bool) : Bool := (@Bool.rec (fun _ => Bool) (rs_cmp2 en cd x y kT kF ks) (@Bool.rec (fun _ => Bool) (kF en) (kT en) (rs_tst cd (rs_bi x.2.1) (rs_bi y.2.1))) (Nat.beq (Nat.add x.1 y.1) 0))
abbrev rs_KT : Type := Nat → List rs_V → List rs_V → rs_E → rs_W → Bool
abbrev rs_KR : Type := rs_V → rs_E → rs_H → Nat → Bool
abbrev rs_KC : Type := Nat → List rs_V → rs_E → rs_H → Nat → rs_KR → Bool
abbrev rs_Hd : Type := Nat → Nat → Nat → List Nat → rs_KT → rs_KC → rs_KR → Nat → List rs_V → List rs_V → rs_E → rs_W → Bool
noncomputable def rs_h_no : rs_Hd := fun _ _ _ _ _ _ _ _ _ _ _ _ => false
/-- a number: a; b bytes -/
noncomputable def rs_h_con : rs_Hd := fun a b _ _ kt _ _ pc sk lo en w => (kt (Nat.add pc b) ((0, a, 0) :: sk) lo en w)
noncomputable def rs_h_nul : rs_Hd := fun _ _ _ _ kt _ _ pc sk lo en w => (kt (Nat.add pc 1) ((5, 0, 0) :: sk) lo en w)
/-- local a; b bytes -/
noncomputable def rs_h_ild : rs_Hd := fun a b _ _ kt _ _ pc sk lo en w => (@Prod.rec _ _ (fun _ => Bool) (fun t r => (@Bool.rec (fun _ => Bool) false (kt (Nat.add pc b) ((t, r) :: sk) lo en w) (Nat.ble t 3))) (rs_ln lo a))
noncomputable def rs_h_ald : rs_Hd := fun a b _ _ kt _ _ pc sk lo en w => (@Prod.rec _ _ (fun _ => Bool) (fun t r => (@Bool.rec (fun _ => Bool) false (kt (Nat.add pc b) ((t, r) :: sk) lo en w) (@Bool.rec (fun _ => Bool) (Nat.beq t 5) true (Nat.beq t 4)))) (rs_ln lo a))
/-- to local a; b bytes -/
noncomputable def rs_h_ist : rs_Hd := fun a b _ _ kt _ _ pc sk lo en w => (@List.rec _ (fun _ => Bool) false (fun v sk _ => (@Bool.rec (fun _ => Bool) false (rs_ls v a lo (fun lo => (kt (Nat.add pc b) sk lo en w))) (Nat.ble v.1 3))) sk)
noncomputable def rs_h_ast : rs_Hd := fun a b _ _ kt _ _ pc sk lo en w => (@List.rec _ (fun _ => Bool) false (fun v sk _ => (@Bool.rec (fun _ => Bool) false (rs_ls v a lo (fun lo => (kt (Nat.add pc b) sk lo en w))) (@Bool.rec (fun _ => Bool) (Nat.beq v.1 5) true (Nat.beq v.1 4)))) sk)
/-- local a, b more -/
noncomputable def rs_h_inc : rs_Hd := fun a b _ _ kt _ _ pc sk lo en w => (@Prod.rec _ _ (fun _ => Bool) (fun t r_t => (@Prod.rec _ _ (fun _ => Bool) (fun x y => (@Bool.rec (fun _ => Bool) (@Bool.rec (fun _ => Bool) (@Bool.rec (fun _ => Bool) false (rs_ls (3, 0, 0) a lo (fun lo => (kt (Nat.add pc 3) sk lo en w))) (Nat.beq t 3)) (rs_nf (Nat.mod (Nat.add y b) 4294967296) (fun z => rs_ls (1, x, z) a lo (fun lo => (kt (Nat.add pc 3) sk lo en w)))) (Nat.beq t 1)) (rs_nf (Nat.mod (Nat.add x b) 4294967296) (fun z => rs_ls (0, z, 0) a lo (fun lo => (kt (Nat.add pc 3) sk lo en w)))) (Nat.beq t 0))) r_t)) (rs_ln lo a))
abbrev rs_Fn : Type := rs_E → rs_V → rs_V → (rs_V → Bool) → (Nat → Bool) → Bool
/-- two numbers: x below, y ahead -/
noncomputable def rs_two (f : rs_Fn) : rs_Hd := fun _ _ _ _ kt _ _ pc sk lo en w => (@List.rec _ (fun _ => Bool) false (fun y s1 _ => (@List.rec _ (fun _ => Bool) false (fun x sk _ => (rs_res en y (fun y => rs_res en x (fun x => f en x y (fun v => (kt (Nat.add pc 1) (v :: sk) lo en w)) (fun z => rs_sp en z (fun en => (kt pc (y :: x :: sk) lo en w))))))) s1)) sk)
/-- not by forms: each number of the script, or any number -/
noncomputable def rs_gen : rs_Fn := fun en x y kv ks => (@Bool.rec (fun _ => Bool) (@Bool.rec (fun _ => Bool) (@Bool.rec (fun _ => Bool) false (@Bool.rec (fun _ => Bool) false (kv (3, 0, 0)) (Nat.ble y.1 3)) (Nat.ble x.1 3)) (@Prod.rec _ _ (fun _ => Bool) (fun lo r_lo => (@Prod.rec _ _ (fun _ => Bool) (fun hi _pa => (@Bool.rec (fun _ => Bool) (@Bool.rec (fun _ => Bool) false (kv (3, 0, 0)) (Nat.ble x.1 3)) (ks y.2.1) (Nat.ble (Nat.sub hi lo) 300))) r_lo)) (rs_eg en y.2.1)) (Nat.beq y.1 1)) (@Prod.rec _ _ (fun _ => Bool) (fun lo r_lo => (@Prod.rec _ _ (fun _ => Bool) (fun hi _pa => (@Bool.rec (fun _ => Bool) (@Bool.rec (fun _ => Bool) false (kv (3, 0, 0)) (Nat.ble y.1 3)) (ks x.2.1) (Nat.ble (Nat.sub hi lo) 300))) r_lo)) (rs_eg en x.2.1)) (Nat.beq x.1 1))
noncomputable def rs_f_add : rs_Fn := fun en x y kv ks => (@Bool.rec (fun _ => Bool) (@Bool.rec (fun _ => Bool) (@Bool.rec (fun _ => Bool) (rs_gen en x y kv ks) (rs_nf (Nat.mod (Nat.add x.2.2 y.2.1) 4294967296) (fun z => kv (1, x.2.1, z))) (@Bool.rec (fun _ => Bool) false (Nat.beq y.1 0) (Nat.beq x.1 1))) (rs_nf (Nat.mod (Nat.add y.2.2 x.2.1) 4294967296) (fun z => kv (1, y.2.1, z))) (@Bool.rec (fun _ => Bool) false (Nat.beq y.1 1) (Nat.beq x.1 0))) (rs_nf (Nat.mod (Nat.add x.2.1 y.2.1) 4294967296) (fun z => kv (0, z, 0))) (Nat.beq (Nat.add x.1 y.1) 0))
noncomputable def rs_f_sub : rs_Fn := fun en x y kv ks => (@Bool.rec (fun _ => Bool) (@Bool.rec (fun _ => Bool) (rs_gen en x y kv ks) (rs_nf (Nat.mod (Nat.add x.2.2 (Nat.sub 4294967296 (Nat.mod y.2.1 4294967296))) 4294967296) (fun z => kv (1, x.2.1, z))) (@Bool.rec (fun _ => Bool) false (Nat.beq y.1 0) (Nat.beq x.1 1))) (rs_nf (Nat.mod (Nat.add (Nat.sub 4294967296 (Nat.mod y.2.1 4294967296)) x.2.1) 4294967296) (fun z => kv (0, z, 0))) (Nat.beq (Nat.add x.1 y.1) 0))
/-- by numbers alone -/
noncomputable def rs_f_nn (f : Nat → Nat → Nat) : rs_Fn := fun en x y kv ks => (@Bool.rec (fun _ => Bool) (rs_gen en x y kv ks) (rs_nf (f x.2.1 y.2.1) (fun z => kv (0, z, 0))) (Nat.beq (Nat.add x.1 y.1) 0))
noncomputable def rs_f_and : rs_Fn := fun en x y kv ks => (@Bool.rec (fun _ => Bool) (@Bool.rec (fun _ => Bool) (rs_gen en x y kv ks) (kv (2, x.2.1, y.2.1)) (@Bool.rec (fun _ => Bool) false (@Bool.rec (fun _ => Bool) false (Nat.beq x.2.2 0) (Nat.beq y.1 0)) (Nat.beq x.1 1))) (rs_nf (Nat.mod (Nat.land x.2.1 y.2.1) 4294967296) (fun z => kv (0, z, 0))) (Nat.beq (Nat.add x.1 y.1) 0))
noncomputable def rs_f_div : rs_Fn := fun _ x y kv ks => (@Bool.rec (fun _ => Bool) (@Bool.rec (fun _ => Bool) (@Bool.rec (fun _ => Bool) false (ks y.2.1) (Nat.beq y.1 1)) (ks x.2.1) (Nat.beq x.1 1)) (@Bool.rec (fun _ => Bool) false (rs_nf (Nat.div x.2.1 y.2.1) (fun z => kv (0, z, 0))) (@Bool.rec (fun _ => Bool) false (@Bool.rec (fun _ => Bool) false (Nat.ble 1 y.2.1) (Nat.ble y.2.1 2147483647)) (Nat.ble x.2.1 2147483647))) (Nat.beq (Nat.add x.1 y.1) 0))
noncomputable def rs_f_rem : rs_Fn := fun en x y kv ks => (@Bool.rec (fun _ => Bool) (@Bool.rec (fun _ => Bool) (@Bool.rec (fun _ => Bool) (@Bool.rec (fun _ => Bool) false (ks y.2.1) (Nat.beq y.1 1)) (ks x.2.1) (Nat.beq x.1 1)) (kv (2, x.2.1, 1)) (@Bool.rec (fun _ => Bool) false (@Bool.rec (fun _ => Bool) false (@Bool.rec (fun _ => Bool) false (@Bool.rec (fun _ => Bool) false (Nat.ble 2147483648 (rs_eg en x.2.1).1) (Nat.beq x.2.2 0)) (Nat.beq y.2.1 2)) (Nat.beq y.1 0)) (Nat.beq x.1 1))) (@Bool.rec (fun _ => Bool) false (rs_nf (Nat.mod x.2.1 y.2.1) (fun z => kv (0, z, 0))) (@Bool.rec (fun _ => Bool) false (@Bool.rec (fun _ => Bool) false (Nat.ble 1 y.2.1) (Nat.ble y.2.1 2147483647)) (Nat.ble x.2.1 2147483647))) (Nat.beq (Nat.add x.1 y.1) 0))
/-- to the right, of what is at least 0 -/
noncomputable def rs_f_shr : rs_Fn := fun en x y kv ks => (@Bool.rec (fun _ => Bool) (rs_gen en x y kv ks) (@Bool.rec (fun _ => Bool) false (rs_nf (Nat.shiftRight x.2.1 (Nat.mod y.2.1 32)) (fun z => kv (0, z, 0))) (Nat.ble x.2.1 2147483647)) (Nat.beq (Nat.add x.1 y.1) 0))
noncomputable def rs_h_pop : rs_Hd := fun _ _ _ _ kt _ _ pc sk lo en w => (@List.rec _ (fun _ => Bool) false (fun _ sk _ => (kt (Nat.add pc 1) sk lo en w)) sk)
noncomputable def rs_h_dup : rs_Hd := fun _ _ _ _ kt _ _ pc sk lo en w => (@List.rec _ (fun _ => Bool) false (fun v sk _ => (kt (Nat.add pc 1) (v :: v :: sk) lo en w)) sk)
noncomputable def rs_h_dup2 : rs_Hd := fun _ _ _ _ kt _ _ pc sk lo en w => (@List.rec _ (fun _ => Bool) false (fun v s1 _ => (@List.rec _ (fun _ => Bool) false (fun u sk _ => (kt (Nat.add pc 1) (v :: u :: v :: u :: sk) lo en w)) s1)) sk)
noncomputable def rs_h_goto : rs_Hd := fun a _ _ _ kt _ _ _ sk lo en w => (kt a sk lo en w)
/-- if two stand so (b), to a -/
noncomputable def rs_h_icmp : rs_Hd := fun a b _ _ kt _ _ pc sk lo en w => (@List.rec _ (fun _ => Bool) false (fun y s1 _ => (@List.rec _ (fun _ => Bool) false (fun x sk _ => (rs_res en y (fun y => rs_res en x (fun x => (rs_cmp en b x y (fun en => (kt a sk lo en w)) (fun en => (kt (Nat.add pc 3) sk lo en w)) (fun z => rs_sp en z (fun en => kt pc (y :: x :: sk) lo en w))))))) s1)) sk)
noncomputable def rs_h_if0 : rs_Hd := fun a b _ _ kt _ _ pc sk lo en w => (@List.rec _ (fun _ => Bool) false (fun x sk _ => (rs_res en x (fun x => (rs_cmp en b x (0, 0, 0) (fun en => (kt a sk lo en w)) (fun en => (kt (Nat.add pc 3) sk lo en w)) (fun _ => false))))) sk)
/-- null: to a; a thing: to b -/
noncomputable def rs_h_nulls : rs_Hd := fun a b _ _ kt _ _ _ sk lo en w => (@List.rec _ (fun _ => Bool) false (fun v sk _ => (@Bool.rec (fun _ => Bool) (@Bool.rec (fun _ => Bool) false (kt b sk lo en w) (Nat.beq v.1 4)) (kt a sk lo en w) (Nat.beq v.1 5))) sk)
noncomputable def rs_nth (l : List Nat) (d : Nat) : Nat → Nat := @List.rec Nat (fun _ => Nat → Nat) (fun _ => d) (fun v _ ih i => @Nat.rec (fun _ => Nat) v (fun j _ => ih j) i) l
/-- from a on, b of them; else to c -/
noncomputable def rs_h_tsw : rs_Hd := fun a b c l kt _ _ pc sk lo en w => (@List.rec _ (fun _ => Bool) false (fun x sk _ => (rs_res en x (fun x => (@Bool.rec (fun _ => Bool) (@Bool.rec (fun _ => Bool) (@Bool.rec (fun _ => Bool) false (@Bool.rec (fun _ => Bool) false (@Bool.rec (fun _ => Bool) false (@Prod.rec _ _ (fun _ => Bool) (fun _lo r__lo => (@Prod.rec _ _ (fun _ => Bool) (fun _hi pa => (@Bool.rec (fun _ => Bool) false (@Bool.rec (fun _ => Bool) false (kt (rs_nth l c (Nat.sub pa 3)) sk lo en w) (@Bool.rec (fun _ => Bool) true false (Nat.ble b (Nat.sub pa 3)))) (Nat.ble 3 pa))) r__lo)) (rs_eg en x.2.1)) (Nat.beq a 0)) (Nat.beq x.2.2 31)) (Nat.beq x.1 2)) (rs_lt en x.2.1 x.2.2 (Nat.add a 2147483648) (fun en => (kt c sk lo en w)) (fun en => rs_lt en x.2.1 x.2.2 (Nat.add (Nat.add a b) 2147483648) (fun en => rs_sp en x.2.1 (fun en => (kt pc (x :: sk) lo en w))) (fun en => (kt c sk lo en w)))) (Nat.beq x.1 1)) (@Bool.rec (fun _ => Bool) false (@Bool.rec (fun _ => Bool) (kt c sk lo en w) (kt (rs_nth l c (Nat.sub x.2.1 a)) sk lo en w) (@Bool.rec (fun _ => Bool) false (@Bool.rec (fun _ => Bool) true false (Nat.ble b (Nat.sub x.2.1 a))) (Nat.ble a x.2.1))) (Nat.ble x.2.1 4294967295)) (Nat.beq x.1 0))))) sk)
/-- a: to b; c: to the first of l; else to the second -/
noncomputable def rs_h_lsw : rs_Hd := fun a b c l kt _ _ _ sk lo en w => (@List.rec _ (fun _ => Bool) false (fun x sk _ => (rs_res en x (fun x => rs_cmp en 0 x (0, a, 0) (fun en => (kt b sk lo en w)) (fun en => rs_cmp en 0 x (0, c, 0) (fun en => (kt (rs_nth l 0 0) sk lo en w)) (fun en => (kt (rs_nth l 0 1) sk lo en w)) (fun _ => false)) (fun _ => false)))) sk)
/-- field c of a thing of class b -/
noncomputable def rs_h_get : rs_Hd := fun _ b c _ kt _ _ pc sk lo en w => (@List.rec _ (fun _ => Bool) false (fun v sk _ => (@Bool.rec (fun _ => Bool) false (@Prod.rec _ _ (fun _ => Bool) (fun h r => (@Bool.rec (fun _ => Bool) false (@Bool.rec (fun _ => Bool) false (@Prod.rec _ _ (fun _ => Bool) (fun t u => (kt (Nat.add pc 3) ((t, u) :: sk) lo en w)) (rt_g r.2 c)) (@Bool.rec (fun _ => Bool) true false (Nat.ble r.1 c))) (Nat.beq h b))) (rt_g w.1 v.2.1)) (Nat.beq v.1 4))) sk)
noncomputable def rs_put (fit : rs_V → Bool) : rs_Hd := fun _ b c _ kt _ _ pc sk lo en w => (@List.rec _ (fun _ => Bool) false (fun u s1 _ => (@List.rec _ (fun _ => Bool) false (fun v sk _ => (@Bool.rec (fun _ => Bool) false (@Bool.rec (fun _ => Bool) false (@Prod.rec _ _ (fun _ => Bool) (fun h r => (@Bool.rec (fun _ => Bool) false (@Bool.rec (fun _ => Bool) false (rt_s u 5 c r.2 (fun fs => rt_s (h, r.1, fs) 10 v.2.1 w.1 (fun hp => (kt (Nat.add pc 3) sk lo en (hp, w.2))))) (@Bool.rec (fun _ => Bool) true false (Nat.ble r.1 c))) (Nat.beq h b))) (rt_g w.1 v.2.1)) (fit u)) (Nat.beq v.1 4))) s1)) sk)
def rs_fitI (v : rs_V) : Bool := Nat.ble v.1 3
noncomputable def rs_fitZ (v : rs_V) : Bool := (@Bool.rec (fun _ => Bool) false (Nat.ble v.2.1 1) (Nat.beq v.1 0))
noncomputable def rs_fitA (v : rs_V) : Bool := (@Bool.rec (fun _ => Bool) (Nat.beq v.1 5) true (Nat.beq v.1 4))
noncomputable def rs_h_len : rs_Hd := fun _ _ _ _ kt _ _ pc sk lo en w => (@List.rec _ (fun _ => Bool) false (fun v sk _ => (@Bool.rec (fun _ => Bool) false (@Prod.rec _ _ (fun _ => Bool) (fun h r => (@Bool.rec (fun _ => Bool) false (@Bool.rec (fun _ => Bool) false (kt (Nat.add pc 1) ((0, r.1, 0) :: sk) lo en w) (Nat.ble h 31)) (Nat.ble 16 h))) (rt_g w.1 v.2.1)) (Nat.beq v.1 4))) sk)
/-- the same from j on, n of them -/
noncomputable def rs_same (fs : Lean.RArray rs_V) (v : rs_V) (n : Nat) : Nat → Bool := @Nat.rec (fun _ => Nat → Bool) (fun _ => true) (fun _ ih j => (@Prod.rec _ _ (fun _ => Bool) (fun t r_t => (@Prod.rec _ _ (fun _ => Bool) (fun a b => (@Bool.rec (fun _ => Bool) false (@Bool.rec (fun _ => Bool) false (@Bool.rec (fun _ => Bool) false (rs_nf (Nat.add j 1) (fun j => ih j)) (Nat.beq v.2.2 b)) (Nat.beq v.2.1 a)) (Nat.beq v.1 t))) r_t)) (rt_g fs j))) n
/-- from a row at a place that hangs on a number of the script: all the same there, or each -/
noncomputable def rs_sym (en : rs_E) (x : rs_V) (n : Nat) (fs : Lean.RArray rs_V) (kv : rs_V → Bool) (ks : Bool) : Bool := (@Prod.rec _ _ (fun _ => Bool) (fun l r_l => (@Prod.rec _ _ (fun _ => Bool) (fun h _pa => (@Bool.rec (fun _ => Bool) false (@Bool.rec (fun _ => Bool) false (@Bool.rec (fun _ => Bool) false (@Prod.rec _ _ (fun _ => Bool) (fun t u => (@Bool.rec (fun _ => Bool) ks (kv (t, u)) (rs_same fs (t, u) (h - l + 1) ((l + x.2.2) % 4294967296 - 2147483648)))) (rt_g fs ((l + x.2.2) % 4294967296 - 2147483648))) (Nat.ble ((h + x.2.2) % 4294967296 + 1) (n + 2147483648))) (Nat.ble 2147483648 ((l + x.2.2) % 4294967296))) (Nat.beq ((l + x.2.2) / 4294967296) ((h + x.2.2) / 4294967296)))) r_l)) (rs_eg en x.2.1))
noncomputable def rs_h_iald : rs_Hd := fun _ _ _ _ kt _ _ pc sk lo en w => (@List.rec _ (fun _ => Bool) false (fun x s1 _ => (@List.rec _ (fun _ => Bool) false (fun v sk _ => (@Bool.rec (fun _ => Bool) false (@Prod.rec _ _ (fun _ => Bool) (fun hd r => (@Bool.rec (fun _ => Bool) false (rs_res en x (fun x => (@Bool.rec (fun _ => Bool) (@Bool.rec (fun _ => Bool) false (rs_sym en x r.1 r.2 (fun u => (kt (Nat.add pc 1) (u :: sk) lo en w)) (rs_sp en x.2.1 (fun en => (kt pc (x :: v :: sk) lo en w)))) (Nat.beq x.1 1)) (@Bool.rec (fun _ => Bool) false (@Prod.rec _ _ (fun _ => Bool) (fun t u => (@Bool.rec (fun _ => Bool) false (kt (Nat.add pc 1) ((t, u) :: sk) lo en w) (Nat.ble t 3))) (rt_g r.2 x.2.1)) (@Bool.rec (fun _ => Bool) true false (Nat.ble r.1 x.2.1))) (Nat.beq x.1 0)))) (Nat.beq hd 16))) (rt_g w.1 v.2.1)) (Nat.beq v.1 4))) s1)) sk)
noncomputable def rs_dp (n : Nat) : Nat := @Bool.rec (fun _ => Nat) 13 6 (Nat.ble n 64)
noncomputable def rs_h_iast : rs_Hd := fun _ _ _ _ kt _ _ pc sk lo en w => (@List.rec _ (fun _ => Bool) false (fun u s1 _ => (@List.rec _ (fun _ => Bool) false (fun x s2 _ => (@List.rec _ (fun _ => Bool) false (fun v sk _ => (@Bool.rec (fun _ => Bool) false (@Bool.rec (fun _ => Bool) false (@Prod.rec _ _ (fun _ => Bool) (fun hd r => (@Bool.rec (fun _ => Bool) false (rs_res en x (fun x => (@Bool.rec (fun _ => Bool) (@Bool.rec (fun _ => Bool) false (rs_sp en x.2.1 (fun en => (kt pc (u :: x :: v :: sk) lo en w))) (Nat.beq x.1 1)) (@Bool.rec (fun _ => Bool) false (rt_s u (rs_dp r.1) x.2.1 r.2 (fun fs => rt_s (16, r.1, fs) 10 v.2.1 w.1 (fun hp => (kt (Nat.add pc 1) sk lo en (hp, w.2))))) (@Bool.rec (fun _ => Bool) true false (Nat.ble r.1 x.2.1))) (Nat.beq x.1 0)))) (Nat.beq hd 16))) (rt_g w.1 v.2.1)) (Nat.ble u.1 3)) (Nat.beq v.1 4))) s2)) s1)) sk)
noncomputable def rs_h_aald : rs_Hd := fun _ _ _ _ kt _ _ pc sk lo en w => (@List.rec _ (fun _ => Bool) false (fun x s1 _ => (@List.rec _ (fun _ => Bool) false (fun v sk _ => (@Bool.rec (fun _ => Bool) false (@Prod.rec _ _ (fun _ => Bool) (fun hd r => (@Bool.rec (fun _ => Bool) false (@Bool.rec (fun _ => Bool) false (rs_res en x (fun x => (@Bool.rec (fun _ => Bool) (@Bool.rec (fun _ => Bool) false (rs_sp en x.2.1 (fun en => (kt pc (x :: v :: sk) lo en w))) (Nat.beq x.1 1)) (@Bool.rec (fun _ => Bool) false (@Prod.rec _ _ (fun _ => Bool) (fun t u => (kt (Nat.add pc 1) ((t, u) :: sk) lo en w)) (rt_g r.2 x.2.1)) (@Bool.rec (fun _ => Bool) true false (Nat.ble r.1 x.2.1))) (Nat.beq x.1 0)))) (Nat.ble hd 31)) (Nat.ble 17 hd))) (rt_g w.1 v.2.1)) (Nat.beq v.1 4))) s1)) sk)
/-- a thing of class ci into a row of array class hd - 16 -/
noncomputable def rs_aok (hd ci : Nat) : Bool := (@Bool.rec (fun _ => Bool) (@Bool.rec (fun _ => Bool) (@Bool.rec (fun _ => Bool) (@Bool.rec (fun _ => Bool) (@Bool.rec (fun _ => Bool) false (Nat.beq ci 4) (Nat.beq hd 21)) (Nat.beq ci 1) (Nat.beq hd 20)) (Nat.beq ci 5) (Nat.beq hd 19)) (Nat.beq ci 2) (Nat.beq hd 18)) (Nat.beq ci 7) (Nat.beq hd 17))
noncomputable def rs_h_aast : rs_Hd := fun _ _ _ _ kt _ _ pc sk lo en w => (@List.rec _ (fun _ => Bool) false (fun u s1 _ => (@List.rec _ (fun _ => Bool) false (fun x s2 _ => (@List.rec _ (fun _ => Bool) false (fun v sk _ => (@Bool.rec (fun _ => Bool) false (@Bool.rec (fun _ => Bool) false (@Bool.rec (fun _ => Bool) false (@Prod.rec _ _ (fun _ => Bool) (fun hd r => (@Bool.rec (fun _ => Bool) false (@Bool.rec (fun _ => Bool) false (rt_s u (rs_dp r.1) x.2.1 r.2 (fun fs => rt_s (hd, r.1, fs) 10 v.2.1 w.1 (fun hp => (kt (Nat.add pc 1) sk lo en (hp, w.2))))) (@Bool.rec (fun _ => Bool) true false (Nat.ble r.1 x.2.1))) (rs_aok hd (rt_g w.1 u.2.1).1))) (rt_g w.1 v.2.1)) (Nat.beq u.1 4)) (Nat.beq x.1 0)) (Nat.beq v.1 4))) s2)) s1)) sk)
/-- one thing more, of n places -/
noncomputable def rs_mk (o : rs_O) (n capc caps : Nat) (w : rs_W) (k : rs_W → Bool) : Bool := (@Bool.rec (fun _ => Bool) false (@Bool.rec (fun _ => Bool) false (@Bool.rec (fun _ => Bool) false (rt_s o 10 w.2.1 w.1 (fun hp => (rs_nf (Nat.add w.2.1 1) (fun nn => (rs_nf (Nat.add w.2.2.1 1) (fun cs => (rs_nf (Nat.add w.2.2.2 n) (fun ss => k (hp, nn, cs, ss))))))))) (@Bool.rec (fun _ => Bool) true false (Nat.ble 1024 w.2.1))) (Nat.ble (Nat.add w.2.2.2 n) caps)) (@Bool.rec (fun _ => Bool) true false (Nat.ble capc w.2.2.1)))
end
section
/-! things made; calls; returns; the run -/
def rs_dv : Lean.RArray (Lean.RArray rs_V) := (.branch 0 (.branch 0 (.branch 0 (.branch 0 (.leaf (.branch 0 (.branch 0 (.branch 0 (.branch 0 (.branch 0 (.leaf (0, 0, 0)) (.leaf (0, 0, 0))) (.leaf (0, 0, 0))) (.leaf (0, 0, 0))) (.branch 0 (.branch 0 (.branch 0 (.leaf (0, 0, 0)) (.leaf (0, 0, 0))) (.leaf (0, 0, 0))) (.leaf (0, 0, 0)))) (.branch 0 (.branch 0 (.branch 0 (.branch 0 (.leaf (0, 0, 0)) (.leaf (0, 0, 0))) (.leaf (0, 0, 0))) (.leaf (0, 0, 0))) (.leaf (0, 0, 0))))) (.leaf (.branch 0 (.branch 0 (.branch 0 (.branch 0 (.branch 0 (.leaf (5, 0, 0)) (.leaf (0, 0, 0))) (.leaf (0, 0, 0))) (.branch 0 (.branch 0 (.leaf (0, 0, 0)) (.leaf (0, 0, 0))) (.leaf (0, 0, 0)))) (.branch 0 (.branch 0 (.branch 0 (.leaf (0, 0, 0)) (.leaf (0, 0, 0))) (.leaf (0, 0, 0))) (.branch 0 (.branch 0 (.leaf (5, 0, 0)) (.leaf (0, 0, 0))) (.leaf (0, 0, 0))))) (.branch 0 (.branch 0 (.branch 0 (.branch 0 (.leaf (0, 0, 0)) (.leaf (0, 0, 0))) (.leaf (0, 0, 0))) (.branch 0 (.branch 0 (.leaf (5, 0, 0)) (.leaf (0, 0, 0))) (.leaf (0, 0, 0)))) (.branch 0 (.branch 0 (.branch 0 (.leaf (0, 0, 0)) (.leaf (0, 0, 0))) (.leaf (0, 0, 0))) (.leaf (0, 0, 0))))))) (.branch 0 (.leaf (.branch 0 (.branch 0 (.branch 0 (.branch 0 (.branch 0 (.leaf (5, 0, 0)) (.leaf (0, 0, 0))) (.leaf (0, 0, 0))) (.leaf (0, 0, 0))) (.branch 0 (.branch 0 (.branch 0 (.leaf (0, 0, 0)) (.leaf (0, 0, 0))) (.leaf (0, 0, 0))) (.leaf (0, 0, 0)))) (.branch 0 (.branch 0 (.branch 0 (.branch 0 (.leaf (0, 0, 0)) (.leaf (0, 0, 0))) (.leaf (0, 0, 0))) (.leaf (0, 0, 0))) (.branch 0 (.branch 0 (.branch 0 (.leaf (0, 0, 0)) (.leaf (0, 0, 0))) (.leaf (0, 0, 0))) (.leaf (0, 0, 0)))))) (.leaf (.leaf (0, 0, 0))))) (.branch 0 (.branch 0 (.leaf (.branch 0 (.branch 0 (.branch 0 (.branch 0 (.branch 0 (.leaf (5, 0, 0)) (.leaf (0, 0, 0))) (.leaf (0, 0, 0))) (.branch 0 (.branch 0 (.leaf (0, 0, 0)) (.leaf (0, 0, 0))) (.leaf (0, 0, 0)))) (.branch 0 (.branch 0 (.branch 0 (.leaf (0, 0, 0)) (.leaf (0, 0, 0))) (.leaf (0, 0, 0))) (.branch 0 (.branch 0 (.leaf (0, 0, 0)) (.leaf (0, 0, 0))) (.leaf (0, 0, 0))))) (.branch 0 (.branch 0 (.branch 0 (.branch 0 (.leaf (0, 0, 0)) (.leaf (0, 0, 0))) (.leaf (0, 0, 0))) (.branch 0 (.branch 0 (.leaf (0, 0, 0)) (.leaf (0, 0, 0))) (.leaf (0, 0, 0)))) (.branch 0 (.branch 0 (.branch 0 (.leaf (0, 0, 0)) (.leaf (0, 0, 0))) (.leaf (0, 0, 0))) (.leaf (0, 0, 0)))))) (.leaf (.branch 0 (.branch 0 (.branch 0 (.branch 0 (.branch 0 (.leaf (5, 0, 0)) (.leaf (0, 0, 0))) (.leaf (0, 0, 0))) (.leaf (0, 0, 0))) (.branch 0 (.branch 0 (.branch 0 (.leaf (5, 0, 0)) (.leaf (0, 0, 0))) (.leaf (0, 0, 0))) (.leaf (0, 0, 0)))) (.branch 0 (.branch 0 (.branch 0 (.branch 0 (.leaf (5, 0, 0)) (.leaf (0, 0, 0))) (.leaf (0, 0, 0))) (.leaf (0, 0, 0))) (.branch 0 (.branch 0 (.branch 0 (.leaf (5, 0, 0)) (.leaf (0, 0, 0))) (.leaf (0, 0, 0))) (.leaf (0, 0, 0))))))) (.branch 0 (.leaf (.branch 0 (.branch 0 (.branch 0 (.branch 0 (.branch 0 (.leaf (5, 0, 0)) (.leaf (0, 0, 0))) (.leaf (0, 0, 0))) (.leaf (0, 0, 0))) (.branch 0 (.branch 0 (.branch 0 (.leaf (0, 0, 0)) (.leaf (0, 0, 0))) (.leaf (0, 0, 0))) (.leaf (0, 0, 0)))) (.branch 0 (.branch 0 (.branch 0 (.branch 0 (.leaf (0, 0, 0)) (.leaf (0, 0, 0))) (.leaf (0, 0, 0))) (.leaf (0, 0, 0))) (.leaf (0, 0, 0))))) (.leaf (.leaf (0, 0, 0)))))) (.branch 0 (.branch 0 (.branch 0 (.leaf (.branch 0 (.branch 0 (.branch 0 (.branch 0 (.branch 0 (.leaf (5, 0, 0)) (.leaf (0, 0, 0))) (.leaf (0, 0, 0))) (.branch 0 (.branch 0 (.leaf (0, 0, 0)) (.leaf (0, 0, 0))) (.leaf (0, 0, 0)))) (.branch 0 (.branch 0 (.branch 0 (.leaf (5, 0, 0)) (.leaf (0, 0, 0))) (.leaf (0, 0, 0))) (.branch 0 (.branch 0 (.leaf (0, 0, 0)) (.leaf (0, 0, 0))) (.leaf (0, 0, 0))))) (.branch 0 (.branch 0 (.branch 0 (.branch 0 (.leaf (5, 0, 0)) (.leaf (0, 0, 0))) (.leaf (0, 0, 0))) (.branch 0 (.branch 0 (.leaf (0, 0, 0)) (.leaf (0, 0, 0))) (.leaf (0, 0, 0)))) (.branch 0 (.branch 0 (.branch 0 (.leaf (5, 0, 0)) (.leaf (0, 0, 0))) (.leaf (0, 0, 0))) (.branch 0 (.branch 0 (.leaf (0, 0, 0)) (.leaf (0, 0, 0))) (.leaf (0, 0, 0))))))) (.leaf (.branch 0 (.branch 0 (.branch 0 (.branch 0 (.branch 0 (.leaf (5, 0, 0)) (.leaf (0, 0, 0))) (.branch 0 (.leaf (0, 0, 0)) (.leaf (0, 0, 0)))) (.branch 0 (.branch 0 (.leaf (5, 0, 0)) (.leaf (0, 0, 0))) (.leaf (0, 0, 0)))) (.branch 0 (.branch 0 (.branch 0 (.leaf (5, 0, 0)) (.leaf (0, 0, 0))) (.leaf (0, 0, 0))) (.branch 0 (.branch 0 (.leaf (0, 0, 0)) (.leaf (0, 0, 0))) (.leaf (0, 0, 0))))) (.branch 0 (.branch 0 (.branch 0 (.branch 0 (.leaf (5, 0, 0)) (.leaf (0, 0, 0))) (.branch 0 (.leaf (0, 0, 0)) (.leaf (0, 0, 0)))) (.branch 0 (.branch 0 (.leaf (5, 0, 0)) (.leaf (0, 0, 0))) (.leaf (0, 0, 0)))) (.branch 0 (.branch 0 (.branch 0 (.leaf (5, 0, 0)) (.leaf (0, 0, 0))) (.leaf (0, 0, 0))) (.branch 0 (.branch 0 (.leaf (0, 0, 0)) (.leaf (0, 0, 0))) (.leaf (0, 0, 0)))))))) (.branch 0 (.leaf (.branch 0 (.branch 0 (.branch 0 (.branch 0 (.branch 0 (.leaf (5, 0, 0)) (.leaf (0, 0, 0))) (.branch 0 (.leaf (0, 0, 0)) (.leaf (0, 0, 0)))) (.branch 0 (.branch 0 (.leaf (0, 0, 0)) (.leaf (0, 0, 0))) (.leaf (0, 0, 0)))) (.branch 0 (.branch 0 (.branch 0 (.leaf (0, 0, 0)) (.leaf (0, 0, 0))) (.leaf (0, 0, 0))) (.branch 0 (.branch 0 (.leaf (0, 0, 0)) (.leaf (0, 0, 0))) (.leaf (0, 0, 0))))) (.branch 0 (.branch 0 (.branch 0 (.branch 0 (.leaf (5, 0, 0)) (.leaf (0, 0, 0))) (.branch 0 (.leaf (0, 0, 0)) (.leaf (0, 0, 0)))) (.branch 0 (.branch 0 (.leaf (0, 0, 0)) (.leaf (0, 0, 0))) (.leaf (0, 0, 0)))) (.branch 0 (.branch 0 (.branch 0 (.leaf (0, 0, 0)) (.leaf (0, 0, 0))) (.leaf (0, 0, 0))) (.branch 0 (.branch 0 (.leaf (0, 0, 0)) (.leaf (0, 0, 0))) (.leaf (0, 0, 0))))))) (.leaf (.leaf (0, 0, 0))))) (.branch 0 (.branch 0 (.leaf (.branch 0 (.branch 0 (.branch 0 (.branch 0 (.branch 0 (.leaf (5, 0, 0)) (.leaf (0, 0, 0))) (.leaf (0, 0, 0))) (.leaf (0, 0, 0))) (.branch 0 (.branch 0 (.branch 0 (.leaf (5, 0, 0)) (.leaf (0, 0, 0))) (.leaf (0, 0, 0))) (.leaf (0, 0, 0)))) (.branch 0 (.branch 0 (.branch 0 (.branch 0 (.leaf (5, 0, 0)) (.leaf (0, 0, 0))) (.leaf (0, 0, 0))) (.leaf (0, 0, 0))) (.branch 0 (.branch 0 (.branch 0 (.leaf (0, 0, 0)) (.leaf (0, 0, 0))) (.leaf (0, 0, 0))) (.leaf (0, 0, 0)))))) (.leaf (.branch 0 (.branch 0 (.branch 0 (.branch 0 (.branch 0 (.leaf (0, 0, 0)) (.leaf (0, 0, 0))) (.branch 0 (.leaf (0, 0, 0)) (.leaf (0, 0, 0)))) (.branch 0 (.branch 0 (.leaf (0, 0, 0)) (.leaf (0, 0, 0))) (.branch 0 (.leaf (5, 0, 0)) (.leaf (0, 0, 0))))) (.branch 0 (.branch 0 (.branch 0 (.leaf (5, 0, 0)) (.leaf (0, 0, 0))) (.branch 0 (.leaf (5, 0, 0)) (.leaf (0, 0, 0)))) (.branch 0 (.branch 0 (.leaf (0, 0, 0)) (.leaf (0, 0, 0))) (.leaf (0, 0, 0))))) (.branch 0 (.branch 0 (.branch 0 (.branch 0 (.leaf (5, 0, 0)) (.leaf (0, 0, 0))) (.branch 0 (.leaf (0, 0, 0)) (.leaf (0, 0, 0)))) (.branch 0 (.branch 0 (.leaf (0, 0, 0)) (.leaf (0, 0, 0))) (.leaf (0, 0, 0)))) (.branch 0 (.branch 0 (.branch 0 (.leaf (5, 0, 0)) (.leaf (0, 0, 0))) (.branch 0 (.leaf (0, 0, 0)) (.leaf (0, 0, 0)))) (.branch 0 (.branch 0 (.leaf (0, 0, 0)) (.leaf (0, 0, 0))) (.leaf (0, 0, 0)))))))) (.branch 0 (.leaf (.branch 0 (.branch 0 (.branch 0 (.branch 0 (.branch 0 (.leaf (5, 0, 0)) (.leaf (0, 0, 0))) (.branch 0 (.leaf (0, 0, 0)) (.leaf (0, 0, 0)))) (.branch 0 (.branch 0 (.leaf (0, 0, 0)) (.leaf (0, 0, 0))) (.branch 0 (.leaf (0, 0, 0)) (.leaf (0, 0, 0))))) (.branch 0 (.branch 0 (.branch 0 (.leaf (0, 0, 0)) (.leaf (0, 0, 0))) (.branch 0 (.leaf (0, 0, 0)) (.leaf (0, 0, 0)))) (.branch 0 (.branch 0 (.leaf (0, 0, 0)) (.leaf (0, 0, 0))) (.branch 0 (.leaf (0, 0, 0)) (.leaf (0, 0, 0)))))) (.branch 0 (.branch 0 (.branch 0 (.branch 0 (.leaf (0, 0, 0)) (.leaf (0, 0, 0))) (.branch 0 (.leaf (0, 0, 0)) (.leaf (0, 0, 0)))) (.branch 0 (.branch 0 (.leaf (0, 0, 0)) (.leaf (0, 0, 0))) (.branch 0 (.leaf (0, 0, 0)) (.leaf (0, 0, 0))))) (.branch 0 (.branch 0 (.branch 0 (.leaf (0, 0, 0)) (.leaf (0, 0, 0))) (.branch 0 (.leaf (0, 0, 0)) (.leaf (0, 0, 0)))) (.branch 0 (.branch 0 (.leaf (0, 0, 0)) (.leaf (0, 0, 0))) (.branch 0 (.leaf (0, 0, 0)) (.leaf (0, 0, 0)))))))) (.leaf (.leaf (0, 0, 0)))))))
/-- of class b, c fields -/
noncomputable def rs_h_new : rs_Hd := fun _ b c l kt _ _ pc sk lo en w => (rs_mk (b, c, rt_g rs_dv b) c (rs_nth l 0 0) (rs_nth l 0 1) w (fun w1 => (kt (Nat.add pc 3) ((4, w.2.1, 0) :: sk) lo en w1)))
noncomputable def rs_h_newa : rs_Hd := fun _ _ _ l kt _ _ pc sk lo en w => (@List.rec _ (fun _ => Bool) false (fun v sk _ => (@Bool.rec (fun _ => Bool) false (@Bool.rec (fun _ => Bool) false (rs_mk (16, v.2.1, .leaf (0, 0, 0)) v.2.1 (rs_nth l 0 0) (rs_nth l 0 1) w (fun w1 => (kt (Nat.add pc 2) ((4, w.2.1, 0) :: sk) lo en w1))) (Nat.ble v.2.1 8192)) (Nat.beq v.1 0))) sk)
noncomputable def rs_h_anew : rs_Hd := fun _ b _ l kt _ _ pc sk lo en w => (@List.rec _ (fun _ => Bool) false (fun v sk _ => (@Bool.rec (fun _ => Bool) false (@Bool.rec (fun _ => Bool) false (rs_mk (Nat.add 16 b, v.2.1, .leaf (5, 0, 0)) v.2.1 (rs_nth l 0 0) (rs_nth l 0 1) w (fun w1 => (kt (Nat.add pc 3) ((4, w.2.1, 0) :: sk) lo en w1))) (Nat.ble v.2.1 8192)) (Nat.beq v.1 0))) sk)
noncomputable def rs_len (l : List rs_V) : Nat := @List.rec rs_V (fun _ => Nat) 0 (fun _ _ n => Nat.succ n) l
noncomputable def rs_h_oini : rs_Hd := fun _ _ _ _ kt _ _ pc sk lo en w => (@List.rec _ (fun _ => Bool) false (fun v sk _ => (@Bool.rec (fun _ => Bool) false (@Bool.rec (fun _ => Bool) false (kt (Nat.add pc 3) sk lo en w) (Nat.ble (rs_len sk) 8)) (Nat.beq v.1 4))) sk)
/-- the larger, the smaller -/
noncomputable def rs_mm (big : Bool) : rs_Hd := fun _ _ _ l kt _ _ pc sk lo en w => (@List.rec _ (fun _ => Bool) false (fun y s1 _ => (@List.rec _ (fun _ => Bool) false (fun x sk _ => (@Bool.rec (fun _ => Bool) false (@Bool.rec (fun _ => Bool) false (@Bool.rec (fun _ => Bool) false (@Bool.rec (fun _ => Bool) false (@Bool.rec (fun _ => Bool) false (@Bool.rec (fun _ => Bool) (@Bool.rec (fun _ => Bool) (kt (Nat.add pc 3) (x :: sk) lo en w) (kt (Nat.add pc 3) (y :: sk) lo en w) big) (@Bool.rec (fun _ => Bool) (kt (Nat.add pc 3) (y :: sk) lo en w) (kt (Nat.add pc 3) (x :: sk) lo en w) big) (Nat.ble (rs_bi y.2.1) (rs_bi x.2.1))) (Nat.ble w.2.2.2 (rs_nth l 0 5))) (Nat.ble w.2.2.1 (rs_nth l 0 4))) (Nat.ble (rs_len sk) 8)) (Nat.beq x.1 0)) (Nat.beq y.1 0))) s1)) sk)
/-- all of a row of numbers into another as long -/
noncomputable def rs_h_acp : rs_Hd := fun _ _ _ _ kt _ _ pc sk lo en w => (@List.rec _ (fun _ => Bool) false (fun n s1 _ => (@List.rec _ (fun _ => Bool) false (fun dp s2 _ => (@List.rec _ (fun _ => Bool) false (fun d s3 _ => (@List.rec _ (fun _ => Bool) false (fun sp s4 _ => (@List.rec _ (fun _ => Bool) false (fun s sk _ => (@Bool.rec (fun _ => Bool) false (@Bool.rec (fun _ => Bool) false (@Bool.rec (fun _ => Bool) false (@Bool.rec (fun _ => Bool) false (@Bool.rec (fun _ => Bool) false (@Prod.rec _ _ (fun _ => Bool) (fun ha ra => (@Prod.rec _ _ (fun _ => Bool) (fun hb rb => (@Bool.rec (fun _ => Bool) false (@Bool.rec (fun _ => Bool) false (@Bool.rec (fun _ => Bool) false (@Bool.rec (fun _ => Bool) false (rt_s (16, rb.1, ra.2) 10 d.2.1 w.1 (fun hp => (kt (Nat.add pc 3) sk lo en (hp, w.2)))) (Nat.beq rb.1 n.2.1)) (Nat.beq ra.1 n.2.1)) (Nat.beq hb 16)) (Nat.beq ha 16))) (rt_g w.1 d.2.1))) (rt_g w.1 s.2.1)) (Nat.ble (rs_len sk) 8)) (Nat.beq s.1 4)) (Nat.beq d.1 4)) (Nat.beq (Nat.add (Nat.add dp.1 dp.2.1) (Nat.add sp.1 sp.2.1)) 0)) (Nat.beq n.1 0))) s4)) s3)) s2)) s1)) sk)
noncomputable def rs_tk (n : Nat) : List rs_V → List rs_V → (List rs_V → List rs_V → Bool) → Bool := @Nat.rec (fun _ => List rs_V → List rs_V → (List rs_V → List rs_V → Bool) → Bool) (fun sk acc k => k acc sk) (fun _ ih sk acc k => (@List.rec _ (fun _ => Bool) false (fun v sk _ => (ih sk (v :: acc) k)) sk)) n
/-- a receiver of that class -/
noncomputable def rs_rcv (md : Nat) (hp : rs_H) (ci : Nat) (as : List rs_V) : Bool := (@Bool.rec (fun _ => Bool) (@List.rec _ (fun _ => Bool) false (fun v _t _ => (@Bool.rec (fun _ => Bool) false (@Bool.rec (fun _ => Bool) (Nat.beq (rt_g hp v.2.1).1 ci) true (Nat.beq md 2)) (Nat.beq v.1 4))) as) true (Nat.beq md 0))
/-- a call of b with c numbers; l: answer's kind, its cells, its slots, the caller's cells and slots, the receiver's class -/
noncomputable def rs_call (md : Nat) : rs_Hd := fun _ b c l kt kc _ pc sk lo en w => (rs_tk c sk [] (fun as rest => (@Bool.rec (fun _ => Bool) false (@Bool.rec (fun _ => Bool) false (rs_nf (Nat.add w.2.2.1 (rs_nth l 0 1)) (fun c1 => (rs_nf (Nat.add w.2.2.2 (rs_nth l 0 2)) (fun s1 => (@Bool.rec (fun _ => Bool) false (@Bool.rec (fun _ => Bool) false (kc b as en w.1 w.2.1 (fun v en hp nn => (@Bool.rec (fun _ => Bool) (kt (Nat.add pc 3) (v :: rest) lo en (hp, nn, c1, s1)) (kt (Nat.add pc 3) rest lo en (hp, nn, c1, s1)) (Nat.beq (rs_nth l 0 0) 0)))) (Nat.ble s1 (rs_nth l 0 4))) (Nat.ble c1 (rs_nth l 0 3))))))) (rs_rcv md w.1 (rs_nth l 0 5) as)) (Nat.ble (rs_len rest) 8))))
noncomputable def rs_h_ireti : rs_Hd := fun _ _ _ l _ _ kr _ sk _ en w => (@Bool.rec (fun _ => Bool) false (@Bool.rec (fun _ => Bool) false (@List.rec _ (fun _ => Bool) false (fun v s1 _ => (@List.rec _ (fun _ => Bool) (rs_res en v (fun v => (@Bool.rec (fun _ => Bool) false (kr v en w.1 w.2.1) (rs_fitI v)))) (fun _ _ _ => false) s1)) sk) (Nat.ble w.2.2.2 (rs_nth l 0 1))) (Nat.ble w.2.2.1 (rs_nth l 0 0)))
noncomputable def rs_h_iretz : rs_Hd := fun _ _ _ l _ _ kr _ sk _ en w => (@Bool.rec (fun _ => Bool) false (@Bool.rec (fun _ => Bool) false (@List.rec _ (fun _ => Bool) false (fun v s1 _ => (@List.rec _ (fun _ => Bool) (@Bool.rec (fun _ => Bool) false (kr v en w.1 w.2.1) (rs_fitZ v)) (fun _ _ _ => false) s1)) sk) (Nat.ble w.2.2.2 (rs_nth l 0 1))) (Nat.ble w.2.2.1 (rs_nth l 0 0)))
noncomputable def rs_h_aret : rs_Hd := fun _ _ _ l _ _ kr _ sk _ en w => (@Bool.rec (fun _ => Bool) false (@Bool.rec (fun _ => Bool) false (@List.rec _ (fun _ => Bool) false (fun v s1 _ => (@List.rec _ (fun _ => Bool) (@Bool.rec (fun _ => Bool) false (kr v en w.1 w.2.1) (rs_fitA v)) (fun _ _ _ => false) s1)) sk) (Nat.ble w.2.2.2 (rs_nth l 0 1))) (Nat.ble w.2.2.1 (rs_nth l 0 0)))
noncomputable def rs_h_vret : rs_Hd := fun _ _ _ l _ _ kr _ sk _ en w => (@Bool.rec (fun _ => Bool) false (@Bool.rec (fun _ => Bool) false (@List.rec _ (fun _ => Bool) (kr (9, 0, 0) en w.1 w.2.1) (fun _ _ _ => false) sk) (Nat.ble w.2.2.2 (rs_nth l 0 1))) (Nat.ble w.2.2.1 (rs_nth l 0 0)))
noncomputable def rs_h_sal : rs_Hd := fun _ _ _ _ kt _ _ pc sk lo en w => (@Prod.rec _ _ (fun _ => Bool) (fun t r => (@Bool.rec (fun _ => Bool) false (kt (Nat.add pc 1) ((t, r) :: sk) lo en w) (Nat.beq t 6))) (rs_ln lo 0))
noncomputable def rs_h_sld : rs_Hd := fun _ _ _ _ kt _ _ pc sk lo en w => (@List.rec _ (fun _ => Bool) false (fun x s1 _ => (@List.rec _ (fun _ => Bool) false (fun v sk _ => (@Bool.rec (fun _ => Bool) false (@Bool.rec (fun _ => Bool) false (@Bool.rec (fun _ => Bool) false (@Bool.rec (fun _ => Bool) false (kt (Nat.add pc 1) ((1, x.2.1, 0) :: sk) lo en w) (Nat.ble 2147483654 (rs_eg en 6).1)) (Nat.ble x.2.1 5)) (Nat.beq x.1 0)) (Nat.beq v.1 6))) s1)) sk)
noncomputable def rs_h_slen : rs_Hd := fun _ _ _ _ kt _ _ pc sk lo en w => (@List.rec _ (fun _ => Bool) false (fun v sk _ => (@Bool.rec (fun _ => Bool) false (kt (Nat.add pc 1) ((1, 6, 0) :: sk) lo en w) (Nat.beq v.1 6))) sk)
noncomputable def rs_f_mul : rs_Fn := rs_f_nn (fun a b => Nat.mod (Nat.mul a b) 4294967296)
noncomputable def rs_f_or : rs_Fn := rs_f_nn (fun a b => Nat.mod (Nat.lor a b) 4294967296)
noncomputable def rs_f_shl : rs_Fn := rs_f_nn (fun a b => Nat.mod (Nat.shiftLeft a (Nat.mod b 32)) 4294967296)
noncomputable def rs_f_ushr : rs_Fn := rs_f_nn (fun a b => Nat.shiftRight (Nat.mod a 4294967296) (Nat.mod b 32))
noncomputable def rs_hsL : Lean.RArray (Nat × rs_Hd) := (.branch 0 (.branch 0 (.branch 0 (.branch 0 (.branch 0 (.branch 0 (.leaf (0, rs_h_no)) (.leaf (32, rs_h_nulls))) (.branch 0 (.leaf (16, (rs_two rs_f_add))) (.leaf (48, rs_h_oini)))) (.branch 0 (.branch 0 (.leaf (8, rs_h_ild)) (.leaf (40, rs_h_len))) (.branch 0 (.leaf (24, (rs_two rs_f_shr))) (.leaf (56, rs_h_iretz))))) (.branch 0 (.branch 0 (.branch 0 (.leaf (4, rs_h_con)) (.leaf (36, rs_h_get))) (.branch 0 (.leaf (20, (rs_two rs_f_rem))) (.leaf (52, (rs_call 1))))) (.branch 0 (.branch 0 (.leaf (12, rs_h_ist)) (.leaf (44, rs_h_aast))) (.branch 0 (.leaf (28, rs_h_dup2)) (.leaf (60, rs_h_sld)))))) (.branch 0 (.branch 0 (.branch 0 (.branch 0 (.leaf (2, rs_h_con)) (.leaf (34, rs_h_tsw))) (.branch 0 (.leaf (18, (rs_two rs_f_mul))) (.leaf (50, (rs_mm false))))) (.branch 0 (.branch 0 (.leaf (10, rs_h_ald)) (.leaf (42, rs_h_iast))) (.branch 0 (.leaf (26, rs_h_pop)) (.leaf (58, rs_h_vret))))) (.branch 0 (.branch 0 (.branch 0 (.leaf (6, rs_h_nul)) (.leaf (38, (rs_put rs_fitZ)))) (.branch 0 (.leaf (22, (rs_two rs_f_or))) (.leaf (54, (rs_call 2))))) (.branch 0 (.branch 0 (.leaf (14, rs_h_ast)) (.leaf (46, rs_h_newa))) (.branch 0 (.leaf (30, rs_h_icmp)) (.leaf (62, rs_h_no))))))) (.branch 0 (.branch 0 (.branch 0 (.branch 0 (.branch 0 (.leaf (1, rs_h_con)) (.leaf (33, rs_h_nulls))) (.branch 0 (.leaf (17, (rs_two rs_f_sub))) (.leaf (49, (rs_mm true))))) (.branch 0 (.branch 0 (.leaf (9, rs_h_ald)) (.leaf (41, rs_h_iald))) (.branch 0 (.leaf (25, (rs_two rs_f_ushr))) (.leaf (57, rs_h_aret))))) (.branch 0 (.branch 0 (.branch 0 (.leaf (5, rs_h_con)) (.leaf (37, (rs_put rs_fitI)))) (.branch 0 (.leaf (21, (rs_two rs_f_and))) (.leaf (53, (rs_call 0))))) (.branch 0 (.branch 0 (.leaf (13, rs_h_ast)) (.leaf (45, rs_h_new))) (.branch 0 (.leaf (29, rs_h_goto)) (.leaf (61, rs_h_slen)))))) (.branch 0 (.branch 0 (.branch 0 (.branch 0 (.leaf (3, rs_h_con)) (.leaf (35, rs_h_lsw))) (.branch 0 (.leaf (19, (rs_two rs_f_div))) (.leaf (51, rs_h_acp)))) (.branch 0 (.branch 0 (.leaf (11, rs_h_ist)) (.leaf (43, rs_h_aald))) (.branch 0 (.leaf (27, rs_h_dup)) (.leaf (59, rs_h_sal))))) (.branch 0 (.branch 0 (.branch 0 (.leaf (7, rs_h_ild)) (.leaf (39, (rs_put rs_fitA)))) (.branch 0 (.leaf (23, (rs_two rs_f_shl))) (.leaf (55, rs_h_ireti)))) (.branch 0 (.branch 0 (.leaf (15, rs_h_inc)) (.leaf (47, rs_h_anew))) (.branch 0 (.leaf (31, rs_h_if0)) (.leaf (63, rs_h_no))))))))
noncomputable def rs_hs : Lean.RArray (Nat × rs_Hd) := (.branch 0 (.branch 0 (.branch 0 (.branch 0 (.branch 0 (.branch 0 (.leaf (0, rs_h_no)) (.leaf (32, rs_h_nulls))) (.branch 0 (.leaf (16, (rs_two rs_f_add))) (.leaf (48, rs_h_oini)))) (.branch 0 (.branch 0 (.leaf (8, rs_h_ild)) (.leaf (40, rs_h_len))) (.branch 0 (.leaf (24, (rs_two rs_f_shr))) (.leaf (56, rs_h_iretz))))) (.branch 0 (.branch 0 (.branch 0 (.leaf (4, rs_h_con)) (.leaf (36, rs_h_get))) (.branch 0 (.leaf (20, (rs_two rs_f_rem))) (.leaf (52, (rs_call 1))))) (.branch 0 (.branch 0 (.leaf (12, rs_h_ist)) (.leaf (44, rs_h_aast))) (.branch 0 (.leaf (28, rs_h_dup2)) (.leaf (60, rs_h_no)))))) (.branch 0 (.branch 0 (.branch 0 (.branch 0 (.leaf (2, rs_h_con)) (.leaf (34, rs_h_tsw))) (.branch 0 (.leaf (18, (rs_two rs_f_mul))) (.leaf (50, (rs_mm false))))) (.branch 0 (.branch 0 (.leaf (10, rs_h_ald)) (.leaf (42, rs_h_iast))) (.branch 0 (.leaf (26, rs_h_pop)) (.leaf (58, rs_h_vret))))) (.branch 0 (.branch 0 (.branch 0 (.leaf (6, rs_h_nul)) (.leaf (38, (rs_put rs_fitZ)))) (.branch 0 (.leaf (22, (rs_two rs_f_or))) (.leaf (54, (rs_call 2))))) (.branch 0 (.branch 0 (.leaf (14, rs_h_ast)) (.leaf (46, rs_h_newa))) (.branch 0 (.leaf (30, rs_h_icmp)) (.leaf (62, rs_h_no))))))) (.branch 0 (.branch 0 (.branch 0 (.branch 0 (.branch 0 (.leaf (1, rs_h_con)) (.leaf (33, rs_h_nulls))) (.branch 0 (.leaf (17, (rs_two rs_f_sub))) (.leaf (49, (rs_mm true))))) (.branch 0 (.branch 0 (.leaf (9, rs_h_ald)) (.leaf (41, rs_h_iald))) (.branch 0 (.leaf (25, (rs_two rs_f_ushr))) (.leaf (57, rs_h_aret))))) (.branch 0 (.branch 0 (.branch 0 (.leaf (5, rs_h_con)) (.leaf (37, (rs_put rs_fitI)))) (.branch 0 (.leaf (21, (rs_two rs_f_and))) (.leaf (53, (rs_call 0))))) (.branch 0 (.branch 0 (.leaf (13, rs_h_ast)) (.leaf (45, rs_h_new))) (.branch 0 (.leaf (29, rs_h_goto)) (.leaf (61, rs_h_no)))))) (.branch 0 (.branch 0 (.branch 0 (.branch 0 (.leaf (3, rs_h_con)) (.leaf (35, rs_h_lsw))) (.branch 0 (.leaf (19, (rs_two rs_f_div))) (.leaf (51, rs_h_acp)))) (.branch 0 (.branch 0 (.leaf (11, rs_h_ist)) (.leaf (43, rs_h_aald))) (.branch 0 (.leaf (27, rs_h_dup)) (.leaf (59, rs_h_no))))) (.branch 0 (.branch 0 (.branch 0 (.leaf (7, rs_h_ild)) (.leaf (39, (rs_put rs_fitA)))) (.branch 0 (.leaf (23, (rs_two rs_f_shl))) (.leaf (55, rs_h_ireti)))) (.branch 0 (.branch 0 (.leaf (15, rs_h_inc)) (.leaf (47, rs_h_anew))) (.branch 0 (.leaf (31, rs_h_if0)) (.leaf (63, rs_h_no))))))))
/-- the run: n instructions at most, of method z; ct: all methods' instructions; k: what is wanted of each end -/
noncomputable def rs_run (ct : Lean.RArray (Lean.RArray rs_I)) (n : Nat) : Nat → rs_KR → rs_KT :=
  @Nat.rec (fun _ => Nat → rs_KR → rs_KT) (fun _ _ _ _ _ _ _ => false)
    (fun _ ih z k pc sk lo en w => (@Prod.rec _ _ (fun _ => Bool) (fun p1 r1 => (@Prod.rec _ _ (fun _ => Bool) (fun cd r2 => (@Prod.rec _ _ (fun _ => Bool) (fun a r_a => (@Prod.rec _ _ (fun _ => Bool) (fun b r4 => (@Prod.rec _ _ (fun _ => Bool) (fun c l => (@Bool.rec (fun _ => Bool) false (@Prod.rec _ _ (fun _ => Bool) (fun _ h => h a b c l (ih z k) (fun q as en hp nn kr => ih q kr 0 [] as en (hp, nn, 0, 0)) k p1 sk lo en w) (rt_g rs_hs cd)) (Nat.beq p1 pc))) r4)) r_a)) r2)) r1)) (rt_g (rt_g ct z) pc))) n
/-- the law itself: lt: its instructions; fu: what a call may take -/
noncomputable def rs_top (ct : Lean.RArray (Lean.RArray rs_I)) (lt : Lean.RArray rs_I) (fu : Nat) (k : rs_KR) (n : Nat) : rs_KT :=
  @Nat.rec (fun _ => rs_KT) (fun _ _ _ _ _ => false)
    (fun _ ih pc sk lo en w => (@Prod.rec _ _ (fun _ => Bool) (fun p1 r1 => (@Prod.rec _ _ (fun _ => Bool) (fun cd r2 => (@Prod.rec _ _ (fun _ => Bool) (fun a r_a => (@Prod.rec _ _ (fun _ => Bool) (fun b r4 => (@Prod.rec _ _ (fun _ => Bool) (fun c l => (@Bool.rec (fun _ => Bool) false (@Prod.rec _ _ (fun _ => Bool) (fun _ h => h a b c l ih (fun q as en hp nn kr => rs_run ct fu q kr 0 [] as en (hp, nn, 0, 0)) k p1 sk lo en w) (rt_g rs_hsL cd)) (Nat.beq p1 pc))) r4)) r_a)) r2)) r1)) (rt_g lt pc))) n
end
section
/-! numbers -/
def rs_i (a : Nat) : Int32 := Int32.ofBitVec (BitVec.ofNat 32 a)
/-- 2^31 more, without sign -/
def rs_b (x : Int32) : Nat := (x.toBitVec.toNat + 2147483648) % 4294967296
theorem rs_i_tn (a : Nat) : (rs_i a).toBitVec.toNat = a % 4294967296 := by
  show (BitVec.ofNat 32 a).toNat = _
  rw [BitVec.toNat_ofNat]
theorem rs_ext {x y : Int32} (h : x.toBitVec.toNat = y.toBitVec.toNat) : x = y := Int32.toBitVec_inj.mp (BitVec.eq_of_toNat_eq h)
theorem rs_tn_lt (x : Int32) : x.toBitVec.toNat < 4294967296 := x.toBitVec.isLt
theorem rs_b_lt (x : Int32) : rs_b x < 4294967296 := Nat.mod_lt _ (by decide)
theorem rs_bi_e (a : Nat) : rs_bi a = (a + 2147483648) % 4294967296 := rfl
theorem rs_b_i (a : Nat) : rs_b (rs_i a) = rs_bi a := by
  unfold rs_b
  rw [rs_i_tn, rs_bi_e]
  omega
theorem rs_b_toInt (x : Int32) : x.toInt = (rs_b x : Int) - 2147483648 := by
  have h := rs_tn_lt x
  show x.toBitVec.toInt = _
  unfold rs_b
  rw [BitVec.toInt_eq_toNat_cond]
  split <;> omega
theorem rs_b_inj {x y : Int32} (h : rs_b x = rs_b y) : x = y := by
  apply Int32.toInt_inj.mp
  rw [rs_b_toInt, rs_b_toInt, h]
theorem rs_i_mod (a : Nat) : rs_i (a % 4294967296) = rs_i a := rs_ext (by rw [rs_i_tn, rs_i_tn, Nat.mod_mod])
theorem rs_of_b {x : Int32} {n : Nat} (h : rs_b x = n) : x = rs_i ((n + 2147483648) % 4294967296) := by
  apply rs_b_inj
  have := rs_b_lt x
  rw [rs_b_i, rs_bi_e]
  omega
theorem rs_b_add (x : Int32) (c : Nat) : rs_b (x + rs_i c) = (rs_b x + c) % 4294967296 := by
  unfold rs_b
  rw [Int32.toBitVec_add, BitVec.toNat_add, rs_i_tn]
  omega
theorem rs_i_add (a b : Nat) : rs_i a + rs_i b = rs_i ((a + b) % 4294967296) := rs_ext (by
  rw [Int32.toBitVec_add, BitVec.toNat_add, rs_i_tn, rs_i_tn, rs_i_tn]
  omega)
theorem rs_i_sub (a b : Nat) : rs_i a - rs_i b = rs_i ((4294967296 - b % 4294967296 + a) % 4294967296) := rs_ext (by
  rw [Int32.toBitVec_sub, BitVec.toNat_sub, rs_i_tn, rs_i_tn, rs_i_tn]
  omega)
theorem rs_add_assoc (x : Int32) (a b : Nat) : x + rs_i a + rs_i b = x + rs_i ((a + b) % 4294967296) := by
  rw [Int32.add_assoc, rs_i_add]
theorem rs_x_sub (x : Int32) (a b : Nat) : x + rs_i a - rs_i b = x + rs_i ((a + (4294967296 - b % 4294967296)) % 4294967296) := rs_ext (by
  rw [Int32.toBitVec_sub, BitVec.toNat_sub, Int32.toBitVec_add, BitVec.toNat_add, Int32.toBitVec_add, BitVec.toNat_add, rs_i_tn, rs_i_tn, rs_i_tn]
  omega)
theorem rs_add0 (x : Int32) : x + rs_i 0 = x := rs_ext (by
  rw [Int32.toBitVec_add, BitVec.toNat_add, rs_i_tn]
  have := rs_tn_lt x
  omega)
theorem rs_i_mul (a b : Nat) : rs_i a * rs_i b = rs_i (a * b % 4294967296) := rs_ext (by
  rw [Int32.toBitVec_mul, BitVec.toNat_mul, rs_i_tn, rs_i_tn, rs_i_tn, ← Nat.mul_mod, Nat.mod_mod])
theorem rs_land_mod (a b : Nat) : (a % 4294967296) &&& (b % 4294967296) = (a &&& b) % 4294967296 := by
  have := @Nat.and_mod_two_pow a b 32
  exact this.symm
theorem rs_lor_mod (a b : Nat) : (a % 4294967296) ||| (b % 4294967296) = (a ||| b) % 4294967296 := by
  have := @Nat.or_mod_two_pow a b 32
  exact this.symm
theorem rs_i_and (a b : Nat) : rs_i a &&& rs_i b = rs_i ((a &&& b) % 4294967296) := rs_ext (by
  rw [Int32.toBitVec_and, BitVec.toNat_and, rs_i_tn, rs_i_tn, rs_i_tn, Nat.mod_mod, rs_land_mod])
theorem rs_i_or (a b : Nat) : rs_i a ||| rs_i b = rs_i ((a ||| b) % 4294967296) := rs_ext (by
  rw [Int32.toBitVec_or, BitVec.toNat_or, rs_i_tn, rs_i_tn, rs_i_tn, Nat.mod_mod, rs_lor_mod])
theorem rs_cnt (b : Nat) : ((rs_i b &&& 31).toBitVec.smod 32).toNat = b % 32 := by
  have h : (rs_i b &&& 31).toBitVec = BitVec.ofNat 32 (b % 32) := by
    apply BitVec.eq_of_toNat_eq
    rw [Int32.toBitVec_and, BitVec.toNat_and, rs_i_tn, BitVec.toNat_ofNat]
    have e : (31 : Int32).toBitVec.toNat = 2 ^ 5 - 1 := rfl
    rw [e, Nat.and_two_pow_sub_one_eq_mod]
    omega
  rw [h]
  have key : ∀ k, k < 32 → ((BitVec.ofNat 32 k).smod 32).toNat = k := by decide
  exact key _ (Nat.mod_lt _ (by decide))
theorem rs_i_shl (a b : Nat) : rs_i a <<< (rs_i b &&& 31) = rs_i (Nat.shiftLeft a (b % 32) % 4294967296) := rs_ext (by
  rw [pk_shl _ _ _ (rs_cnt b), rs_i_tn, rs_i_tn, Nat.mod_mod]
  show a % 4294967296 * 2 ^ (b % 32) % 2 ^ 32 = (a <<< (b % 32)) % 4294967296
  rw [Nat.shiftLeft_eq, Nat.mod_mul_mod])
theorem rs_i_pos {a : Nat} (h : a ≤ 2147483647) : (rs_i a).toInt = (a : Int) := by
  rw [rs_b_toInt, rs_b_i, rs_bi_e]
  omega
theorem rs_i_shr {a : Nat} (b : Nat) (h : a ≤ 2147483647) : rs_i a >>> (rs_i b &&& 31) = rs_i (Nat.shiftRight a (b % 32)) := by
  apply Int32.toInt_inj.mp
  rw [pk_shr _ _ _ (rs_cnt b), rs_i_pos h]
  have h2 : Nat.shiftRight a (b % 32) ≤ a := by
    show a >>> (b % 32) ≤ a
    rw [Nat.shiftRight_eq_div_pow]
    exact Nat.div_le_self _ _
  rw [rs_i_pos (by omega)]
  show (a : Int) >>> (b % 32) = ((a >>> (b % 32) : Nat) : Int)
  exact Int.natCast_shiftRight a (b % 32) |>.symm
theorem rs_i_ushr (a b : Nat) : ((rs_i a).toUInt32 >>> ((rs_i b).toUInt32 &&& Int32.toUInt32 31)).toInt32 = rs_i (Nat.shiftRight (a % 4294967296) (b % 32)) := by
  have hc : (((rs_i b).toUInt32 &&& Int32.toUInt32 31).toBitVec % 32).toNat = b % 32 := by
    rw [BitVec.toNat_umod, UInt32.toBitVec_and, BitVec.toNat_and]
    have e : (Int32.toUInt32 31).toBitVec.toNat = 2 ^ 5 - 1 := rfl
    have e2 : (rs_i b).toUInt32.toBitVec.toNat = b % 4294967296 := rs_i_tn b
    have e3 : (32 : BitVec 32).toNat = 32 := rfl
    rw [e, e2, e3, Nat.and_two_pow_sub_one_eq_mod]
    omega
  apply rs_ext
  rw [pk_ushr _ _ _ hc, rs_i_tn, rs_i_tn]
  show _ = ((a % 4294967296) >>> (b % 32)) % 4294967296
  rw [Nat.shiftRight_eq_div_pow]
  have h4 : a % 4294967296 < 4294967296 := Nat.mod_lt _ (by decide)
  generalize a % 4294967296 = n at h4 ⊢
  exact (Nat.mod_eq_of_lt (Nat.lt_of_le_of_lt (Nat.div_le_self _ _) h4)).symm
theorem rs_i_div {a b : Nat} (ha : a ≤ 2147483647) (hb : b ≤ 2147483647) (h0 : 1 ≤ b) : rs_i a / rs_i b = rs_i (a / b) := by
  apply Int32.toInt_inj.mp
  have h2 : a / b ≤ a := Nat.div_le_self _ _
  rw [rk_div_e (by rw [rs_i_pos ha]; omega) (by rw [rs_i_pos hb]; omega), rs_i_pos ha, rs_i_pos hb, rs_i_pos (by omega)]
  exact (Int.natCast_ediv a b).symm
theorem rs_i_rem {a b : Nat} (ha : a ≤ 2147483647) (hb : b ≤ 2147483647) (h0 : 1 ≤ b) : rs_i a - rs_i a / rs_i b * rs_i b = rs_i (a % b) := by
  apply Int32.toInt_inj.mp
  have h2 : a % b ≤ a := Nat.mod_le _ _
  rw [rk_rem_e (by rw [rs_i_pos ha]; omega) (by rw [rs_i_pos hb]; omega), rs_i_pos ha, rs_i_pos hb, rs_i_pos (by omega)]
  exact (Int.natCast_emod a b).symm
theorem rs_i_ne0 {b : Nat} (hb : b ≤ 2147483647) (h0 : 1 ≤ b) : ¬ rs_i b = 0 := by
  intro h
  have h1 := congrArg Int32.toInt h
  rw [rs_i_pos hb] at h1
  have : (0 : Int32).toInt = 0 := rfl
  omega
/-- the lowest bit -/
theorem rs_and1 (x : Int32) : x &&& rs_i 1 = rs_i (rs_b x % 2) := rs_ext (by
  rw [Int32.toBitVec_and, BitVec.toNat_and, rs_i_tn, rs_i_tn]
  have e : (1 : Nat) % 4294967296 = 2 ^ 1 - 1 := rfl
  rw [e, Nat.and_two_pow_sub_one_eq_mod]
  unfold rs_b
  have := rs_tn_lt x
  omega)
theorem rs_rem2 {x : Int32} (h : 2147483648 ≤ rs_b x) : x - x / rs_i 2 * rs_i 2 = x &&& rs_i 1 := by
  rw [rs_and1]
  have h1 := rs_b_lt x
  have h2 := rs_of_b (x := x) rfl
  generalize rs_b x = n at h h1 h2 ⊢
  rw [h2, show (n + 2147483648) % 4294967296 = n - 2147483648 by omega, rs_i_rem (by omega) (by decide) (by decide)]
  rw [show (n - 2147483648) % 2 = n % 2 by omega]
def rs_sg (a : Nat) : Int := if a < 2147483648 then (a : Int) else (a : Int) - 4294967296
theorem rs_sg_ok {a : Nat} (h : a < 4294967296) : Int32.ofInt (rs_sg a) = rs_i a := by
  apply Int32.toInt_inj.mp
  rw [Int32.toInt_ofInt, rs_b_toInt (rs_i a), rs_b_i, rs_bi_e]
  unfold rs_sg
  split
  · rw [rk_bmod] <;> omega
  · rw [rk_bmod] <;> omega
theorem rs_cl {a : Nat} (h : a ≤ 2147483647) : (rs_i a).toNatClampNeg = a := by
  show (rs_i a).toInt.toNat = a
  rw [rs_i_pos h]
  omega
end
section
/-! trees, lists, what is known of the script -/
theorem rs_andE {c x : Bool} (h : @Bool.rec (fun _ => Bool) false x c = true) : c = true ∧ x = true := by
  cases c
  · cases h
  · exact ⟨rfl, h⟩
theorem rs_ifE {c t e : Bool} (h : @Bool.rec (fun _ => Bool) e t c = true) : (c = true ∧ t = true) ∨ (c = false ∧ e = true) := by
  cases c
  · exact Or.inr ⟨rfl, h⟩
  · exact Or.inl ⟨rfl, h⟩
theorem rs_orE {c x : Bool} (h : @Bool.rec (fun _ => Bool) x true c = true) : c = true ∨ x = true := by
  cases c
  · exact Or.inr h
  · exact Or.inl rfl
theorem rs_notE {c : Bool} (h : @Bool.rec (fun _ => Bool) true false c = true) : c = false := by
  cases c
  · rfl
  · cases h
theorem rs_ltE {a b : Nat} (h : @Bool.rec (fun _ => Bool) true false (Nat.ble b a) = true) : a < b := by
  have h1 := rs_notE h
  cases hb : Nat.ble b a
  · exact Nat.lt_of_not_le (fun h2 => by
      rw [Nat.ble_eq_true_of_le h2] at hb
      cases hb)
  · rw [hb] at h1
    cases h1
theorem rs_leE {a b : Nat} (h : Nat.ble a b = true) : a ≤ b := Nat.le_of_ble_eq_true h
theorem rs_nle {a b : Nat} (h : Nat.ble a b = false) : b < a := Nat.lt_of_not_le (fun h2 => by
  rw [Nat.ble_eq_true_of_le h2] at h
  cases h)
theorem rs_eqE {a b : Nat} (h : Nat.beq a b = true) : a = b := Nat.eq_of_beq_eq_true h
theorem rs_neq {a b : Nat} (h : Nat.beq a b = false) : a ≠ b := Nat.ne_of_beq_eq_false h
theorem rs_nfE {x : Nat} {k : Nat → Bool} (h : rs_nf x k = true) : k x = true := by
  cases x
  · exact h
  · exact h
theorem rs_bE {c : Bool} (h : ¬ c = true) : c = false := by
  cases c
  · rfl
  · exact absurd rfl h
theorem rt_g_leaf {α : Type} (x : α) (i : Nat) : rt_g (.leaf x) i = x := rfl
theorem rt_g_branch {α : Type} (p : Nat) (a b : Lean.RArray α) (i : Nat) : rt_g (.branch p a b) i = if i % 2 = 0 then rt_g a (i / 2) else rt_g b (i / 2) := by
  show @Bool.rec (fun _ => α) (rt_g b (i / 2)) (rt_g a (i / 2)) (Nat.beq (i % 2) 0) = _
  cases h : Nat.beq (i % 2) 0
  · rw [if_neg (rs_neq h)]
  · rw [if_pos (rs_eqE h)]
/-- behind a store: the new value at its place, else the old ones -/
theorem rt_sE {α : Type} {v : α} : ∀ (d i : Nat) (t : Lean.RArray α) (k : Lean.RArray α → Bool), i < 2 ^ d → rt_s v d i t k = true → ∃ t' : Lean.RArray α, k t' = true ∧ rt_g t' i = v ∧ ∀ j, j < 2 ^ d → j ≠ i → rt_g t' j = rt_g t j
  | 0, i, t, k, hi, h => ⟨.leaf v, h, rfl, fun j hj hn => by
      have : (2 : Nat) ^ 0 = 1 := rfl
      omega⟩
  | d + 1, i, t, k, hi, h => by
    have hp : (2 : Nat) ^ (d + 1) = 2 * 2 ^ d := by rw [Nat.pow_succ, Nat.mul_comm]
    have hi2 : i / 2 < 2 ^ d := by omega
    cases t with
    | leaf x =>
      rcases rs_ifE (c := Nat.beq (i % 2) 0) h with ⟨h1, h2⟩ | ⟨h1, h2⟩
      · have h1 := rs_eqE h1
        obtain ⟨t', a1, a2, a3⟩ := rt_sE d (i / 2) (.leaf x) _ hi2 h2
        refine ⟨_, a1, ?_, fun j hj hn => ?_⟩
        · rw [rt_g_branch, if_pos h1]
          exact a2
        · rw [rt_g_branch]
          split
          · rw [a3 (j / 2) (by omega) (by omega)]
            rfl
          · rfl
      · have h1 := rs_neq h1
        obtain ⟨t', a1, a2, a3⟩ := rt_sE d (i / 2) (.leaf x) _ hi2 h2
        refine ⟨_, a1, ?_, fun j hj hn => ?_⟩
        · rw [rt_g_branch, if_neg h1]
          exact a2
        · rw [rt_g_branch]
          split
          · rfl
          · rw [a3 (j / 2) (by omega) (by omega)]
            rfl
    | branch p l r =>
      rcases rs_ifE (c := Nat.beq (i % 2) 0) h with ⟨h1, h2⟩ | ⟨h1, h2⟩
      · have h1 := rs_eqE h1
        obtain ⟨t', a1, a2, a3⟩ := rt_sE d (i / 2) l _ hi2 h2
        refine ⟨_, a1, ?_, fun j hj hn => ?_⟩
        · rw [rt_g_branch, if_pos h1]
          exact a2
        · rw [rt_g_branch, rt_g_branch]
          split
          · exact a3 (j / 2) (by omega) (by omega)
          · rfl
      · have h1 := rs_neq h1
        obtain ⟨t', a1, a2, a3⟩ := rt_sE d (i / 2) r _ hi2 h2
        refine ⟨_, a1, ?_, fun j hj hn => ?_⟩
        · rw [rt_g_branch, if_neg h1]
          exact a2
        · rw [rt_g_branch, rt_g_branch]
          split
          · rfl
          · exact a3 (j / 2) (by omega) (by omega)
theorem rs_lsE {v : rs_V} : ∀ (i : Nat) (lo : List rs_V) (k : List rs_V → Bool), rs_ls v i lo k = true → ∃ lo', k lo' = true ∧ rs_ln lo' i = v ∧ ∀ j, j ≠ i → rs_ln lo' j = rs_ln lo j
  | 0, [], k, h => ⟨[v], h, rfl, fun j hj => by
      cases j with
      | zero => exact absurd rfl hj
      | succ j => rfl⟩
  | 0, x :: t, k, h => ⟨v :: t, h, rfl, fun j hj => by
      cases j with
      | zero => exact absurd rfl hj
      | succ j => rfl⟩
  | i + 1, [], k, h => by
    obtain ⟨lo', a1, a2, a3⟩ := rs_lsE i [] _ h
    refine ⟨_, a1, a2, fun j hj => ?_⟩
    cases j with
    | zero => rfl
    | succ j => exact a3 j (by omega)
  | i + 1, x :: t, k, h => by
    obtain ⟨lo', a1, a2, a3⟩ := rs_lsE i t _ h
    refine ⟨_, a1, a2, fun j hj => ?_⟩
    cases j with
    | zero => rfl
    | succ j => exact a3 j (by omega)
/-- what is known of a number -/
def rs_iv (x : Int32) (v : Nat × Nat × Nat) : Prop := v.1 ≤ rs_b x ∧ rs_b x ≤ v.2.1 ∧ (v.2.2 = 1 → rs_b x % 2 = 0) ∧ (v.2.2 = 2 → rs_b x % 2 = 1) ∧ (3 ≤ v.2.2 → x &&& rs_i 31 = rs_i (v.2.2 - 3))
def rs_env (r : Nat → Int32) (en : rs_E) : Prop := ∀ k, rs_iv (r k) (rs_eg en k)
theorem rs_iv_all (x : Int32) : rs_iv x (0, 4294967295, 0) := by
  have h := rs_b_lt x
  refine ⟨Nat.zero_le _, ?_, fun h => absurd h (by decide), fun h => absurd h (by decide), fun h => absurd h (by decide)⟩
  dsimp only
  omega
theorem rs_env_nil (r : Nat → Int32) : rs_env r [] := fun k => rs_iv_all (r k)
theorem rs_env_tail {r : Nat → Int32} {v : Nat × Nat × Nat} {en : rs_E} (h : rs_env r (v :: en)) : rs_env (fun k => r (k + 1)) en := fun k => h (k + 1)
theorem rs_env_cons {r : Nat → Int32} {v : Nat × Nat × Nat} {en : rs_E} (h1 : rs_iv (r 0) v) (h2 : rs_env (fun k => r (k + 1)) en) : rs_env r (v :: en) := fun k => by
  cases k with
  | zero => exact h1
  | succ k => exact h2 k
theorem rs_esE {v : Nat × Nat × Nat} (i : Nat) (r : Nat → Int32) (en : rs_E) (k : rs_E → Bool) (h : rs_es v i en k = true) (hv : rs_iv (r i) v) (he : rs_env r en) : ∃ en', k en' = true ∧ rs_env r en' := by
  induction i generalizing r en k with
  | zero =>
    cases en with
    | nil => exact ⟨[], h, rs_env_nil r⟩
    | cons x t => exact ⟨v :: t, h, rs_env_cons hv (rs_env_tail he)⟩
  | succ i ih =>
    cases en with
    | nil => exact ⟨[], h, rs_env_nil r⟩
    | cons x t =>
      obtain ⟨e', a1, a2⟩ := ih (fun k => r (k + 1)) t _ h hv (rs_env_tail he)
      exact ⟨_, a1, rs_env_cons (he 0) a2⟩
theorem rs_badE {lo hi pa : Nat} {x : Int32} (h : rs_bad lo hi pa = true) (hv : rs_iv x (lo, hi, pa)) : False := by
  obtain ⟨h1, h2⟩ := rs_andE h
  have h1 := rs_eqE h1
  obtain ⟨v1, v2, v3, v4, -⟩ := hv
  dsimp only at v1 v2 v3 v4
  rcases rs_ifE h2 with ⟨a, b⟩ | ⟨a, b⟩
  · have a := rs_eqE a
    have b : lo % 2 = 1 := rs_eqE b
    have := v3 a
    omega
  · obtain ⟨c, d⟩ := rs_andE b
    have c := rs_eqE c
    have d : lo % 2 = 0 := rs_eqE d
    have := v4 c
    omega
theorem rs_ekE {lo hi pa a : Nat} {r : Nat → Int32} {en : rs_E} {k : rs_E → Bool} (h : rs_ek lo hi pa a en k = true) (hv : rs_iv (r a) (lo, hi, pa)) (he : rs_env r en) : ∃ en', k en' = true ∧ rs_env r en' := by
  rcases rs_orE h with h | h
  · exact absurd (rs_badE h hv) id
  · exact rs_esE a r en k h hv he
/-- less -/
theorem rs_ltE2 {r : Nat → Int32} {en : rs_E} {a c b : Nat} {kT kF : rs_E → Bool} (h : rs_lt en a c b kT kF = true) (he : rs_env r en) : ∃ en', rs_env r en' ∧ ((rs_b (r a + rs_i c) < b ∧ kT en' = true) ∨ (b ≤ rs_b (r a + rs_i c) ∧ kF en' = true)) := by
  have hv := he a
  unfold rs_lt at h
  rcases hE : rs_eg en a with ⟨lo, hi, pa⟩
  rw [hE] at h hv
  obtain ⟨h1, h⟩ := rs_andE h
  have h1 : (lo + c) / 4294967296 = (hi + c) / 4294967296 := rs_eqE h1
  obtain ⟨v1, v2, v3, v4, v5⟩ := hv
  dsimp only at v1 v2 v3 v4 v5
  rw [rs_b_add]
  generalize hB : rs_b (r a) = B at v1 v2 v3 v4 ⊢
  have hm : (B + c) % 4294967296 = (lo + c) % 4294967296 + (B - lo) ∧ (hi + c) % 4294967296 = (lo + c) % 4294967296 + (hi - lo) := by omega
  rcases rs_ifE h with ⟨h2, h⟩ | ⟨h2, h⟩
  · have h2 : b ≤ (lo + c) % 4294967296 := rs_leE h2
    exact ⟨en, he, Or.inr ⟨by omega, h⟩⟩
  · have h2 : (lo + c) % 4294967296 < b := rs_nle h2
    rcases rs_ifE h with ⟨h3, h⟩ | ⟨h3, h⟩
    · have h3 : b ≤ (hi + c) % 4294967296 := rs_leE h3
      have h := rs_nfE h
      obtain ⟨h4, h5⟩ := rs_andE h
      have h4 := rs_nfE h4
      by_cases hc : (B + c) % 4294967296 < b
      · obtain ⟨en', a1, a2⟩ := rs_ekE (r := r) h4 ⟨by dsimp only; omega, by
          show rs_b (r a) ≤ lo + (b - (lo + c) % 4294967296) - 1
          omega, by dsimp only; rw [hB]; exact v3, by dsimp only; rw [hB]; exact v4, v5⟩ he
        exact ⟨en', a2, Or.inl ⟨hc, a1⟩⟩
      · obtain ⟨en', a1, a2⟩ := rs_ekE (r := r) h5 ⟨by
          show lo + (b - (lo + c) % 4294967296) ≤ rs_b (r a)
          omega, by dsimp only; omega, by dsimp only; rw [hB]; exact v3, by dsimp only; rw [hB]; exact v4, v5⟩ he
        exact ⟨en', a2, Or.inr ⟨by omega, a1⟩⟩
    · have h3 : (hi + c) % 4294967296 < b := rs_nle h3
      exact ⟨en, he, Or.inl ⟨by omega, h⟩⟩
theorem rs_eqE2 {r : Nat → Int32} {en : rs_E} {a c b : Nat} {kT kF : rs_E → Bool} (h : rs_eq en a c b kT kF = true) (he : rs_env r en) : ∃ en', rs_env r en' ∧ ((rs_b (r a + rs_i c) = b ∧ kT en' = true) ∨ (rs_b (r a + rs_i c) ≠ b ∧ kF en' = true)) := by
  have hv := he a
  unfold rs_eq at h
  rcases hE : rs_eg en a with ⟨lo, hi, pa⟩
  rw [hE] at h hv
  obtain ⟨h1, h⟩ := rs_andE h
  have h1 : (lo + c) / 4294967296 = (hi + c) / 4294967296 := rs_eqE h1
  obtain ⟨v1, v2, v3, v4, v5⟩ := hv
  dsimp only at v1 v2 v3 v4 v5
  rw [rs_b_add]
  generalize hB : rs_b (r a) = B at v1 v2 v3 v4 ⊢
  have hm : (B + c) % 4294967296 = (lo + c) % 4294967296 + (B - lo) ∧ (hi + c) % 4294967296 = (lo + c) % 4294967296 + (hi - lo) := by omega
  rcases rs_ifE h with ⟨h2, h⟩ | ⟨h2, h⟩
  · obtain ⟨h2, h3⟩ := rs_andE h2
    have h2 : (lo + c) % 4294967296 ≤ b := rs_leE h2
    have h3 : b ≤ (hi + c) % 4294967296 := rs_leE h3
    have h := rs_nfE h
    obtain ⟨h4, h⟩ := rs_andE h
    obtain ⟨h5, h6⟩ := rs_andE h
    have ht : ∃ t : Nat, t = lo + (b - (lo + c) % 4294967296) := ⟨_, rfl⟩
    obtain ⟨t, ht⟩ := ht
    have h4 : rs_ek t t pa a en kT = true := by rw [ht]; exact h4
    have h5 : @Bool.rec (fun _ => Bool) (rs_nf (Nat.sub t 1) (fun t1 => rs_ek lo t1 pa a en kF)) true (Nat.beq t lo) = true := by rw [ht]; exact h5
    have h6 : @Bool.rec (fun _ => Bool) (rs_nf (Nat.add t 1) (fun t1 => rs_ek t1 hi pa a en kF)) true (Nat.beq t hi) = true := by rw [ht]; exact h6
    by_cases hc : B = t
    · obtain ⟨en', a1, a2⟩ := rs_ekE (r := r) h4 ⟨by dsimp only; omega, by dsimp only; omega, by dsimp only; rw [hB]; exact v3, by dsimp only; rw [hB]; exact v4, v5⟩ he
      exact ⟨en', a2, Or.inl ⟨by omega, a1⟩⟩
    · by_cases hl : B < t
      · rcases rs_orE h5 with h7 | h7
        · have := rs_eqE h7
          omega
        · obtain ⟨en', a1, a2⟩ := rs_ekE (r := r) (rs_nfE h7) ⟨by dsimp only; omega, by
            show rs_b (r a) ≤ t - 1
            omega, by dsimp only; rw [hB]; exact v3, by dsimp only; rw [hB]; exact v4, v5⟩ he
          exact ⟨en', a2, Or.inr ⟨by omega, a1⟩⟩
      · rcases rs_orE h6 with h7 | h7
        · have := rs_eqE h7
          omega
        · obtain ⟨en', a1, a2⟩ := rs_ekE (r := r) (rs_nfE h7) ⟨by
            show t + 1 ≤ rs_b (r a)
            omega, by dsimp only; omega, by dsimp only; rw [hB]; exact v3, by dsimp only; rw [hB]; exact v4, v5⟩ he
          exact ⟨en', a2, Or.inr ⟨by omega, a1⟩⟩
  · refine ⟨en, he, Or.inr ⟨?_, h⟩⟩
    intro hc
    have h2 : Nat.ble ((lo + c) % 4294967296) b = true := Nat.ble_eq_true_of_le (by omega)
    have h3 : Nat.ble b ((hi + c) % 4294967296) = true := Nat.ble_eq_true_of_le (by omega)
    rename_i h9
    have h9 : @Bool.rec (fun _ => Bool) false (Nat.ble b ((hi + c) % 4294967296)) (Nat.ble ((lo + c) % 4294967296) b) = false := h9
    rw [h2] at h9
    have h9 : Nat.ble b ((hi + c) % 4294967296) = false := h9
    rw [h3] at h9
    cases h9
theorem rs_allE {f : Nat → Bool} : ∀ (n v : Nat), rs_all f n v = true → ∀ u, v ≤ u → u < v + n → f u = true
  | 0, v, _, u, h1, h2 => by omega
  | n + 1, v, h, u, h1, h2 => by
    obtain ⟨h3, h4⟩ := rs_andE (c := f v) h
    by_cases hu : u = v
    · rw [hu]; exact h3
    · exact rs_allE n (v + 1) (rs_nfE h4) u (by omega) (by omega)
theorem rs_spE {r : Nat → Int32} {en : rs_E} {a : Nat} {kk : rs_E → Bool} (h : rs_sp en a kk = true) (he : rs_env r en) : ∃ en', kk en' = true ∧ rs_env r en' := by
  have hv := he a
  unfold rs_sp at h
  rcases hE : rs_eg en a with ⟨lo, hi, pa⟩
  rw [hE] at h hv
  obtain ⟨h1, h⟩ := rs_andE h
  obtain ⟨v1, v2, v3, v4, v5⟩ := hv
  dsimp only at v1 v2 v3 v4 v5
  have h := rs_allE _ _ h (rs_b (r a)) v1 (by
    show rs_b (r a) < lo + (hi - lo + 1)
    omega)
  exact rs_ekE (r := r) h ⟨Nat.le_refl _, Nat.le_refl _, v3, v4, v5⟩ he
end
section
/-! what the things say of the machine -/
def rs_den (r : Nat → Int32) (sb : Nat) (ad : Nat → Nat) (nn : Nat) (v : rs_V) (x : Value) : Prop := match v with
  | (0, a, _) => x = .int (rs_i a)
  | (1, k, c) => x = .int (r k + rs_i c)
  | (2, k, m) => x = .int (r k &&& rs_i m)
  | (3, _, _) => ∃ y : Int32, x = .int y
  | (4, i, _) => i < nn ∧ x = .ref (ad i)
  | (5, _, _) => x = .null
  | (6, _, _) => x = .ref sb
  | _ => False
theorem rs_den_mono {r : Nat → Int32} {sb : Nat} {ad ad' : Nat → Nat} {nn nn' : Nat} (h : nn ≤ nn') (he : ∀ i, i < nn → ad' i = ad i) {v : rs_V} {x : Value} (hd : rs_den r sb ad nn v x) : rs_den r sb ad' nn' v x := by
  obtain ⟨t, a, c⟩ := v
  rcases t with _ | _ | _ | _ | _ | _ | _ | t
  · exact hd
  · exact hd
  · exact hd
  · exact hd
  · obtain ⟨h1, h2⟩ := hd
    exact ⟨by omega, by rw [he a h1]; exact h2⟩
  · exact hd
  · exact hd
  · exact hd
theorem rs_den_cat {r : Nat → Int32} {sb : Nat} {ad : Nat → Nat} {nn : Nat} {v : rs_V} {x : Value} (hd : rs_den r sb ad nn v x) : x.category = 1 := by
  obtain ⟨t, a, c⟩ := v
  rcases t with _ | _ | _ | _ | _ | _ | _ | t
  · rw [hd]; rfl
  · rw [hd]; rfl
  · rw [hd]; rfl
  · obtain ⟨y, rfl⟩ := hd; rfl
  · rw [hd.2]; rfl
  · rw [hd]; rfl
  · rw [hd]; rfl
  · exact absurd hd id
theorem rs_den_I {r : Nat → Int32} {sb : Nat} {ad : Nat → Nat} {nn : Nat} {v : rs_V} {x : Value} (h : v.1 ≤ 3) (hd : rs_den r sb ad nn v x) : ∃ y : Int32, x = .int y := by
  obtain ⟨t, a, c⟩ := v
  rcases t with _ | _ | _ | _ | t
  · exact ⟨_, hd⟩
  · exact ⟨_, hd⟩
  · exact ⟨_, hd⟩
  · exact hd
  · exact absurd h (by dsimp only; omega)
theorem rs_den_R {r : Nat → Int32} {sb : Nat} {ad : Nat → Nat} {nn : Nat} {v : rs_V} {x : Value} (h : v.1 = 4) (hd : rs_den r sb ad nn v x) : v.2.1 < nn ∧ x = .ref (ad v.2.1) := by
  obtain ⟨t, a, c⟩ := v
  dsimp only at h
  subst h
  exact hd
theorem rs_den_N {r : Nat → Int32} {sb : Nat} {ad : Nat → Nat} {nn : Nat} {v : rs_V} {x : Value} (h : v.1 = 5) (hd : rs_den r sb ad nn v x) : x = .null := by
  obtain ⟨t, a, c⟩ := v
  dsimp only at h
  subst h
  exact hd
theorem rs_den_0 {r : Nat → Int32} {sb : Nat} {ad : Nat → Nat} {nn : Nat} {v : rs_V} {x : Value} (h : v.1 = 0) (hd : rs_den r sb ad nn v x) : x = .int (rs_i v.2.1) := by
  obtain ⟨t, a, c⟩ := v
  dsimp only at h
  subst h
  exact hd
theorem rs_den_1 {r : Nat → Int32} {sb : Nat} {ad : Nat → Nat} {nn : Nat} {v : rs_V} {x : Value} (h : v.1 = 1) (hd : rs_den r sb ad nn v x) : x = .int (r v.2.1 + rs_i v.2.2) := by
  obtain ⟨t, a, c⟩ := v
  dsimp only at h
  subst h
  exact hd
theorem rs_den_2 {r : Nat → Int32} {sb : Nat} {ad : Nat → Nat} {nn : Nat} {v : rs_V} {x : Value} (h : v.1 = 2) (hd : rs_den r sb ad nn v x) : x = .int (r v.2.1 &&& rs_i v.2.2) := by
  obtain ⟨t, a, c⟩ := v
  dsimp only at h
  subst h
  exact hd
theorem rs_resE {r : Nat → Int32} {sb : Nat} {ad : Nat → Nat} {nn : Nat} {en : rs_E} {v : rs_V} {x : Value} {k : rs_V → Bool} (h : rs_res en v k = true) (he : rs_env r en) (hd : rs_den r sb ad nn v x) : ∃ v', k v' = true ∧ rs_den r sb ad nn v' x := by
  unfold rs_res at h
  rcases rs_ifE h with ⟨h1, h⟩ | ⟨h1, h⟩
  · have h1 := rs_eqE h1
    have hx := rs_den_1 h1 hd
    have hv := he v.2.1
    rcases hE : rs_eg en v.2.1 with ⟨lo, hi, pa⟩
    rw [hE] at h hv
    rcases rs_ifE h with ⟨h2, h⟩ | ⟨h2, h⟩
    · have h2 : lo = hi := rs_eqE h2
      refine ⟨_, rs_nfE h, ?_⟩
      obtain ⟨v1, v2, -⟩ := hv
      dsimp only at v1 v2
      show x = .int (rs_i ((lo + 2147483648 + v.2.2) % 4294967296))
      rw [hx, rs_i_mod, rs_of_b (x := r v.2.1) (n := lo) (by omega), rs_i_mod]
      have := rs_i_add (lo + 2147483648) v.2.2
      rw [rs_i_mod] at this
      rw [this]
    · exact ⟨v, h, hd⟩
  · exact ⟨v, h, hd⟩
theorem rs_tstE (cd : Nat) (hcd : cd ≤ 5) (x y : Nat) : (rs_tst cd x y = true ↔ rk_rel cd (x : Int) (y : Int)) := by
  have hb : ∀ a b : Nat, Nat.beq a b = true ↔ a = b := fun a b => ⟨rs_eqE, fun h => by rw [h]; exact Nat.beq_refl b⟩
  have hl : ∀ a b : Nat, Nat.ble a b = true ↔ a ≤ b := fun a b => ⟨rs_leE, Nat.ble_eq_true_of_le⟩
  have hn : ∀ c : Bool, @Bool.rec (fun _ => Bool) true false c = true ↔ ¬ c = true := by
    intro c
    cases c <;> simp
  have e : cd = 0 ∨ cd = 1 ∨ cd = 2 ∨ cd = 3 ∨ cd = 4 ∨ cd = 5 := by omega
  rcases e with rfl | rfl | rfl | rfl | rfl | rfl
  · exact (hb x y).trans (by simp only [rk_rel]; omega)
  · exact (hn (Nat.beq x y)).trans (by rw [hb]; simp only [rk_rel]; omega)
  · exact (hn (Nat.ble y x)).trans (by rw [hl]; simp only [rk_rel]; omega)
  · exact (hl y x).trans (by simp only [rk_rel]; omega)
  · exact (hn (Nat.ble x y)).trans (by rw [hl]; simp only [rk_rel]; omega)
  · exact (hl x y).trans (by simp only [rk_rel]; omega)
theorem rs_rel_sh (cd : Nat) (x y z : Int) : rk_rel cd (x - z) (y - z) ↔ rk_rel cd x y := by
  rcases cd with _ | _ | _ | _ | _ | cd <;> simp only [rk_rel] <;> omega
theorem rs_relE (cd : Nat) (hcd : cd ≤ 5) (X Y : Int32) : (rs_tst cd (rs_b X) (rs_b Y) = true ↔ rk_rel cd X.toInt Y.toInt) := by
  rw [rs_b_toInt X, rs_b_toInt Y, rs_rel_sh]
  exact rs_tstE cd hcd _ _
theorem rs_csE {r : Nat → Int32} {en : rs_E} {cd a c b : Nat} {kT kF : rs_E → Bool} (hcd : cd ≤ 5) (h : rs_cs en cd a c b kT kF = true) (he : rs_env r en) {Y : Int32} (hY : rs_b Y = b) : ∃ en', rs_env r en' ∧ ((rk_rel cd (r a + rs_i c).toInt Y.toInt ∧ kT en' = true) ∨ (¬ rk_rel cd (r a + rs_i c).toInt Y.toInt ∧ kF en' = true)) := by
  generalize hX : r a + rs_i c = X
  have e1 := rs_b_toInt X
  have e2 := rs_b_toInt Y
  have key : ∀ (b' : Nat) (kT kF : rs_E → Bool), rs_lt en a c b' kT kF = true → ∃ en', rs_env r en' ∧ ((rs_b X < b' ∧ kT en' = true) ∨ (b' ≤ rs_b X ∧ kF en' = true)) := by
    intro b' kT kF h
    have := rs_ltE2 h he
    rw [hX] at this
    exact this
  have key2 : ∀ (kT kF : rs_E → Bool), rs_eq en a c b kT kF = true → ∃ en', rs_env r en' ∧ ((rs_b X = b ∧ kT en' = true) ∨ (rs_b X ≠ b ∧ kF en' = true)) := by
    intro kT kF h
    have := rs_eqE2 h he
    rw [hX] at this
    exact this
  have e : cd = 0 ∨ cd = 1 ∨ cd = 2 ∨ cd = 3 ∨ cd = 4 ∨ cd = 5 := by omega
  rcases e with rfl | rfl | rfl | rfl | rfl | rfl
  · obtain ⟨en', a1, a2 | a2⟩ := key2 _ _ h
    · exact ⟨en', a1, Or.inl ⟨by simp only [rk_rel]; omega, a2.2⟩⟩
    · exact ⟨en', a1, Or.inr ⟨by simp only [rk_rel]; omega, a2.2⟩⟩
  · obtain ⟨en', a1, a2 | a2⟩ := key2 _ _ h
    · exact ⟨en', a1, Or.inr ⟨by simp only [rk_rel]; omega, a2.2⟩⟩
    · exact ⟨en', a1, Or.inl ⟨by simp only [rk_rel]; omega, a2.2⟩⟩
  · obtain ⟨en', a1, a2 | a2⟩ := key _ _ _ h
    · exact ⟨en', a1, Or.inl ⟨by simp only [rk_rel]; omega, a2.2⟩⟩
    · exact ⟨en', a1, Or.inr ⟨by simp only [rk_rel]; omega, a2.2⟩⟩
  · obtain ⟨en', a1, a2 | a2⟩ := key _ _ _ h
    · exact ⟨en', a1, Or.inr ⟨by simp only [rk_rel]; omega, a2.2⟩⟩
    · exact ⟨en', a1, Or.inl ⟨by simp only [rk_rel]; omega, a2.2⟩⟩
  · obtain ⟨en', a1, a2 | a2⟩ := key (b + 1) _ _ h
    · exact ⟨en', a1, Or.inr ⟨by simp only [rk_rel]; omega, a2.2⟩⟩
    · exact ⟨en', a1, Or.inl ⟨by simp only [rk_rel]; omega, a2.2⟩⟩
  · obtain ⟨en', a1, a2 | a2⟩ := key (b + 1) _ _ h
    · exact ⟨en', a1, Or.inl ⟨by simp only [rk_rel]; omega, a2.2⟩⟩
    · exact ⟨en', a1, Or.inr ⟨by simp only [rk_rel]; omega, a2.2⟩⟩
theorem rs_swE (cd : Nat) (hcd : cd ≤ 5) (x y : Int) : rs_sw cd ≤ 5 ∧ (rk_rel (rs_sw cd) y x ↔ rk_rel cd x y) := by
  have e : cd = 0 ∨ cd = 1 ∨ cd = 2 ∨ cd = 3 ∨ cd = 4 ∨ cd = 5 := by omega
  rcases e with rfl | rfl | rfl | rfl | rfl | rfl <;> refine ⟨by decide, ?_⟩ <;> simp only [rs_sw, rk_rel] <;> omega
set_option maxHeartbeats 400000 in
theorem rs_cmpE {r : Nat → Int32} {sb : Nat} {ad : Nat → Nat} {nn : Nat} {en : rs_E} {cd : Nat} {x y : rs_V} {kT kF : rs_E → Bool} {ks : Nat → Bool} {X Y : Int32} (hcd : cd ≤ 5) (h : rs_cmp en cd x y kT kF ks = true) (he : rs_env r en) (hx : rs_den r sb ad nn x (.int X)) (hy : rs_den r sb ad nn y (.int Y)) :
    (∃ en', rs_env r en' ∧ ((rk_rel cd X.toInt Y.toInt ∧ kT en' = true) ∨ (¬ rk_rel cd X.toInt Y.toInt ∧ kF en' = true))) ∨ ∃ a, ks a = true := by
  unfold rs_cmp at h
  rcases rs_ifE h with ⟨h1, h⟩ | ⟨-, h⟩
  · have h1 : x.1 + y.1 = 0 := rs_eqE h1
    have ex := rs_den_0 (by omega) hx
    have ey := rs_den_0 (by omega) hy
    have ex := Value.int.inj ex
    subst ex
    have ey := Value.int.inj ey
    subst ey
    have hr := rs_relE cd hcd (rs_i x.2.1) (rs_i y.2.1)
    rw [rs_b_i, rs_b_i] at hr
    rcases rs_ifE h with ⟨h2, h⟩ | ⟨h2, h⟩
    · exact Or.inl ⟨en, he, Or.inl ⟨hr.mp h2, h⟩⟩
    · exact Or.inl ⟨en, he, Or.inr ⟨fun h3 => absurd (hr.mpr h3) (by rw [h2]; decide), h⟩⟩
  · unfold rs_cmp2 at h
    rcases rs_ifE h with ⟨h1, h⟩ | ⟨-, h⟩
    · have ex := rs_den_0 (rs_eqE h1) hx
      obtain ⟨h2, h⟩ := rs_andE h
      have ey := rs_den_1 (rs_eqE h2) hy
      have ex := Value.int.inj ex
      subst ex
      have ey := Value.int.inj ey
      subst ey
      obtain ⟨w1, w2⟩ := rs_swE cd hcd (rs_i x.2.1).toInt (r y.2.1 + rs_i y.2.2).toInt
      obtain ⟨en', a1, a2⟩ := rs_csE w1 h he (Y := rs_i x.2.1) (rs_b_i _)
      rw [w2] at a2
      exact Or.inl ⟨en', a1, a2⟩
    · rcases rs_ifE h with ⟨h1, h⟩ | ⟨-, h⟩
      · have ex := rs_den_1 (rs_eqE h1) hx
        rcases rs_ifE h with ⟨h2, h⟩ | ⟨h2, h⟩
        · have ey := rs_den_0 (rs_eqE h2) hy
          have ex := Value.int.inj ex
          subst ex
          have ey := Value.int.inj ey
          subst ey
          exact Or.inl (rs_csE hcd h he (Y := rs_i y.2.1) (rs_b_i _))
        · exact Or.inr ⟨_, (rs_andE h).2⟩
      · rcases rs_ifE h with ⟨h1, h⟩ | ⟨-, h⟩
        · have ex := rs_den_2 (rs_eqE h1) hx
          obtain ⟨h2, h⟩ := rs_andE h
          obtain ⟨h3, h⟩ := rs_andE h
          obtain ⟨h4, h⟩ := rs_andE h
          obtain ⟨h5, h⟩ := rs_andE h
          have ey := rs_den_0 (rs_eqE h2) hy
          have h4 := rs_eqE h4
          have h3 := rs_eqE h3
          rw [h4, rs_and1] at ex
          rw [h3] at ey
          have ex := Value.int.inj ex
          subst ex
          have ey := Value.int.inj ey
          subst ey
          have h5 := rs_leE h5
          have hv := he x.2.1
          rcases hE : rs_eg en x.2.1 with ⟨lo, hi, pa⟩
          rw [hE] at h hv
          obtain ⟨v1, v2, v3, v4, v5⟩ := hv
          dsimp only at v1 v2 v3 v4 v5
          have h01 : rs_b (r x.2.1) % 2 = 0 ∨ rs_b (r x.2.1) % 2 = 1 := by omega
          have q0 : (rs_i 0).toInt = 0 := rfl
          have q1 : (rs_i 1).toInt = 1 := rfl
          have hcd2 : cd = 0 ∨ cd = 1 := by omega
          have r00 : rk_rel 0 (rs_i 0).toInt (rs_i 0).toInt := rfl
          have r10 : ¬ rk_rel 0 (rs_i 1).toInt (rs_i 0).toInt := fun h => by simp only [rk_rel] at h; omega
          have r01 : ¬ rk_rel 1 (rs_i 0).toInt (rs_i 0).toInt := fun h => h rfl
          have r11 : rk_rel 1 (rs_i 1).toInt (rs_i 0).toInt := fun h => by omega
          left
          rcases rs_ifE h with ⟨p1, h⟩ | ⟨-, h⟩
          · rw [v3 (rs_eqE p1)]
            rcases hcd2 with rfl | rfl
            · exact ⟨en, he, Or.inl ⟨r00, h⟩⟩
            · exact ⟨en, he, Or.inr ⟨r01, h⟩⟩
          · rcases rs_ifE h with ⟨p2, h⟩ | ⟨-, h⟩
            · rw [v4 (rs_eqE p2)]
              rcases hcd2 with rfl | rfl
              · exact ⟨en, he, Or.inr ⟨r10, h⟩⟩
              · exact ⟨en, he, Or.inl ⟨r11, h⟩⟩
            · obtain ⟨p3, h⟩ := rs_andE h
              have i1 : rs_b (r x.2.1) % 2 = 0 → rs_iv (r x.2.1) (lo, hi, 1) := fun h => ⟨v1, v2, fun _ => h, fun h => absurd h (by dsimp only; decide), fun h => absurd h (by dsimp only; decide)⟩
              have i2 : rs_b (r x.2.1) % 2 = 1 → rs_iv (r x.2.1) (lo, hi, 2) := fun h => ⟨v1, v2, fun h => absurd h (by dsimp only; decide), fun _ => h, fun h => absurd h (by dsimp only; decide)⟩
              rcases hcd2 with rfl | rfl
              · obtain ⟨k1, k2⟩ := rs_andE (c := rs_es (lo, hi, 1) x.2.1 en kT) h
                rcases h01 with h0 | h0
                · obtain ⟨en', b1, b2⟩ := rs_esE _ r en _ k1 (i1 h0) he
                  rw [h0]
                  exact ⟨en', b2, Or.inl ⟨r00, b1⟩⟩
                · obtain ⟨en', b1, b2⟩ := rs_esE _ r en _ k2 (i2 h0) he
                  rw [h0]
                  exact ⟨en', b2, Or.inr ⟨r10, b1⟩⟩
              · obtain ⟨k1, k2⟩ := rs_andE (c := rs_es (lo, hi, 1) x.2.1 en kF) h
                rcases h01 with h0 | h0
                · obtain ⟨en', b1, b2⟩ := rs_esE _ r en _ k1 (i1 h0) he
                  rw [h0]
                  exact ⟨en', b2, Or.inr ⟨r01, b1⟩⟩
                · obtain ⟨en', b1, b2⟩ := rs_esE _ r en _ k2 (i2 h0) he
                  rw [h0]
                  exact ⟨en', b2, Or.inl ⟨r11, b1⟩⟩
        · obtain ⟨-, h⟩ := rs_andE h
          obtain ⟨-, h⟩ := rs_andE h
          obtain ⟨k1, k2⟩ := rs_andE h
          by_cases hr : rk_rel cd X.toInt Y.toInt
          · exact Or.inl ⟨en, he, Or.inl ⟨hr, k1⟩⟩
          · exact Or.inl ⟨en, he, Or.inr ⟨hr, k2⟩⟩
end
section
/-! the things and the machine's cells -/
def rs_rel (tys : List (ClassId × FieldType)) (dn : rs_V → Value → Prop) (o : rs_O) (E : va_E) : Prop :=
  (o.1 < 16 → ∃ vs : List Value, E = .inr (o.1, vs) ∧ vs.length = o.2.1 ∧ o.2.1 ≤ 32 ∧ ∀ k, k < o.2.1 → ∃ x, vs[k]? = some x ∧ dn (rt_g o.2.2 k) x) ∧
  (o.1 = 16 → ∃ (cA : ClassId) (g : Nat → Int32), E = .inl (cA, o.2.1, .inl g) ∧ tys[0]? = some (cA, .int) ∧ o.2.1 ≤ 8192 ∧ ∀ k, k < o.2.1 → dn (rt_g o.2.2 k) (.int (g k))) ∧
  (17 ≤ o.1 → o.1 ≤ 31 → ∃ (cA : ClassId) (C : String) (g : Nat → Option Nat), E = .inl (cA, o.2.1, .inr (.inr (.inr (.inr g)))) ∧ tys[o.1 - 16]? = some (cA, .object C) ∧ o.2.1 ≤ 8192 ∧ ∀ k, k < o.2.1 → dn (rt_g o.2.2 k) (va_rf (g k)))
theorem rs_rel_mono {tys : List (ClassId × FieldType)} {dn dn' : rs_V → Value → Prop} (h : ∀ v x, dn v x → dn' v x) {o : rs_O} {E : va_E} (hr : rs_rel tys dn o E) : rs_rel tys dn' o E := by
  obtain ⟨h1, h2, h3⟩ := hr
  refine ⟨fun a => ?_, fun a => ?_, fun a b => ?_⟩
  · obtain ⟨vs, e1, e2, e3, e4⟩ := h1 a
    exact ⟨vs, e1, e2, e3, fun k hk => (e4 k hk).imp (fun x hx => ⟨hx.1, h _ _ hx.2⟩)⟩
  · obtain ⟨cA, g, e1, e2, e3, e4⟩ := h2 a
    exact ⟨cA, g, e1, e2, e3, fun k hk => h _ _ (e4 k hk)⟩
  · obtain ⟨cA, C, g, e1, e2, e3, e4⟩ := h3 a b
    exact ⟨cA, C, g, e1, e2, e3, fun k hk => h _ _ (e4 k hk)⟩
/-- all that is fixed in a frame: array classes, classes' numbers, what may change, the heap at the start, the script's numbers, its cell, the locals' number; the start's things, their number, places, cells, contents -/
abbrev rs_Fx : Type := (List (ClassId × FieldType) × va_G × (Nat → Prop) × Heap × (Nat → Int32) × Nat × Nat) × rs_H × Nat × (Nat → Nat) × List Nat × (Nat → va_E)
abbrev rs_fr_r (F : rs_Fx) : Nat → Int32 := F.1.2.2.2.2.1
def rs_dn (F : rs_Fx) (ad : Nat → Nat) (nn : Nat) : rs_V → Value → Prop := rs_den F.1.2.2.2.2.1 F.1.2.2.2.2.2.1 ad nn
def rs_w (F : rs_Fx) (hp : rs_H) (nn : Nat) (ad : Nat → Nat) (L : List Nat) (f : Nat → va_E) (H : Heap) (locs : List Loc) : Prop := match F with
  | ((tys, D, A, H0, r, sb, _), _) => va_P D vwCl (va_pl L f) H ∧ va_D A (va_pl L f) ∧ va_S A H0 H locs ∧ (∀ i, i < nn → ad i ∈ L ∧ ((rt_g hp i).1 < 32 → rs_rel tys (rs_den r sb ad nn) (rt_g hp i) (f (ad i)))) ∧ (∀ i j, i < nn → j < nn → ad i = ad j → i = j) ∧ nn ≤ 1024
def rs_fr (F : rs_Fx) (hp : rs_H) (nn : Nat) (ad : Nat → Nat) (L : List Nat) (f : Nat → va_E) : Prop := match F with
  | (_, hp0, nn0, ad0, L0, f0) => nn0 ≤ nn ∧ (∀ i, i < nn0 → ad i = ad0 i) ∧ (∀ i, i < nn0 → (rt_g hp i).1 < 32 → (rt_g hp0 i).1 < 32) ∧ (∀ a ∈ L0, a ∈ L) ∧ (∀ i, nn0 ≤ i → i < nn → ad i ∉ L0) ∧ ∀ a ∈ L0, (∀ i, i < nn0 → (rt_g hp0 i).1 < 32 → a ≠ ad0 i) → f a = f0 a
def rs_loc (dn : rs_V → Value → Prop) (nL : Nat) (lo : List rs_V) (ls : Array Slot) : Prop := ls.size = nL ∧ lv_wf ls ∧ ∀ i, (rs_ln lo i).1 < 7 → ∃ x, ls[i]? = some (.val x) ∧ dn (rs_ln lo i) x
def rs_stk (dn : rs_V → Value → Prop) : List rs_V → List Value → Prop
  | [], [] => True
  | v :: sk, x :: st => dn v x ∧ rs_stk dn sk st
  | _, _ => False
theorem rs_stk_mono {dn dn' : rs_V → Value → Prop} (h : ∀ v x, dn v x → dn' v x) : ∀ (sk : List rs_V) (st : List Value), rs_stk dn sk st → rs_stk dn' sk st
  | [], [], _ => trivial
  | v :: sk, x :: st, hs => ⟨h _ _ hs.1, rs_stk_mono h sk st hs.2⟩
  | [], _ :: _, hs => hs
  | _ :: _, [], hs => hs
theorem rs_stk_cons {dn : rs_V → Value → Prop} {v : rs_V} {sk : List rs_V} {st : List Value} (h : rs_stk dn (v :: sk) st) : ∃ x st', st = x :: st' ∧ dn v x ∧ rs_stk dn sk st' := by
  cases st with
  | nil => exact absurd h id
  | cons x st => exact ⟨x, st, rfl, h.1, h.2⟩
theorem rs_stk_nil {dn : rs_V → Value → Prop} {st : List Value} (h : rs_stk dn [] st) : st = [] := by
  cases st with
  | nil => rfl
  | cons x st => exact absurd h id
def rs_on (F : rs_Fx) (sk lo : List rs_V) (en : rs_E) (w : rs_W) (ad : Nat → Nat) (L : List Nat) (f : Nat → va_E) (H : Heap) (locs : List Loc) (ls : Array Slot) (st : List Value) : Prop :=
  rs_env F.1.2.2.2.2.1 en ∧ rs_w F w.1 w.2.1 ad L f H locs ∧ rs_fr F w.1 w.2.1 ad L f ∧ rs_loc (rs_dn F ad w.2.1) F.1.2.2.2.2.2.2 lo ls ∧ rs_stk (rs_dn F ad w.2.1) sk st
section RSG
variable {p : Program} {l : Launch} {e : Env} {R : Room} {s : State} {m : MethodId} {args : Array Value} {below : List Frame} {meth : Method} {c : Code} {Q : State → Prop} {F : rs_Fx}
def rs_G (p : Program) (l : Launch) (e : Env) (R : Room) (s : State) (m : MethodId) (args : Array Value) (below : List Frame) (meth : Method) (c : Code) (Q : State → Prop) (F : rs_Fx) (pc : Nat) (sk lo : List rs_V) (en : rs_E) (w : rs_W) : Prop :=
  ∀ (ad : Nat → Nat) (L : List Nat) (f : Nat → va_E) (H : Heap) (locs : List Loc) (ls : Array Slot) (st : List Value), rs_on F sk lo en w ad L f H locs ls st → W p l e R s m args below meth c H locs w.2.2.1 w.2.2.2 Q (F0 m pc ls st)
theorem rs_at {tys : List (ClassId × FieldType)} {D : va_G} {A : Nat → Prop} {H0 : Heap} {r : Nat → Int32} {sb nL : Nat} {Z : rs_H × Nat × (Nat → Nat) × List Nat × (Nat → va_E)} {hp : rs_H} {nn : Nat} {ad : Nat → Nat} {L : List Nat} {f : Nat → va_E} {H : Heap} {locs : List Loc} (hw : rs_w ((tys, D, A, H0, r, sb, nL), Z) hp nn ad L f H locs) {i : Nat} (hi : i < nn) (ht : (rt_g hp i).1 < 32) : ∃ k : Nat, (va_pl L f)[k]? = some (ad i, f (ad i)) ∧ ad i ∈ L ∧ rs_rel tys (rs_den r sb ad nn) (rt_g hp i) (f (ad i)) := by
  obtain ⟨h1, h2⟩ := hw.2.2.2.1 i hi
  obtain ⟨k, hk⟩ := va_pl_get (X := []) (f := f) h1
  exact ⟨k, hk, h1, h2 ht⟩
/-- one thing changed -/
theorem rs_up {tys : List (ClassId × FieldType)} {D : va_G} {A : Nat → Prop} {H0 : Heap} {r : Nat → Int32} {sb nL : Nat} {Z : rs_H × Nat × (Nat → Nat) × List Nat × (Nat → va_E)} {hp hp' : rs_H} {nn : Nat} {ad : Nat → Nat} {L : List Nat} {f : Nat → va_E} {H : Heap} {locs : List Loc} (hw : rs_w ((tys, D, A, H0, r, sb, nL), Z) hp nn ad L f H locs) (hf : rs_fr ((tys, D, A, H0, r, sb, nL), Z) hp nn ad L f) {i : Nat} (hi : i < nn) (ht : (rt_g hp i).1 < 32) {o' : rs_O} {E' : va_E} (hrel : rs_rel tys (rs_den r sb ad nn) o' E') (g1 : rt_g hp' i = o') (g2 : ∀ j, j < 2 ^ 10 → j ≠ i → rt_g hp' j = rt_g hp j) {k : Nat} (hk : (va_pl L f)[k]? = some (ad i, f (ad i))) {H1 : Heap} {locs1 : List Loc} (hP : va_P D vwCl ((va_pl L f).set k (ad i, E')) H1) (hD : va_D A ((va_pl L f).set k (ad i, E'))) (hS : va_S A H0 H1 locs1) : rs_w ((tys, D, A, H0, r, sb, nL), Z) hp' nn ad L (va_up f (ad i) E') H1 locs1 ∧ rs_fr ((tys, D, A, H0, r, sb, nL), Z) hp' nn ad L (va_up f (ad i) E') := by
  obtain ⟨w1, w2, w3, w4, w5, w6⟩ := hw
  have hin := (w4 i hi).1
  have e : (va_pl L f).set k (ad i, E') = va_pl L (va_up f (ad i) E') := va_pl_set (X := []) w2 hin hk
  rw [e] at hP hD
  refine ⟨⟨hP, hD, hS, fun j hj => ?_, w5, w6⟩, ?_⟩
  · by_cases hji : j = i
    · subst hji
      rw [g1, va_up_self]
      exact ⟨hin, fun _ => hrel⟩
    · rw [g2 j (by omega) hji, va_up_ne _ _ (fun h => hji (w5 j i hj hi h))]
      exact w4 j hj
  · obtain ⟨hp0, nn0, ad0, L0, f0⟩ := Z
    obtain ⟨a1, a2, a3, a4, a5, a6⟩ := hf
    refine ⟨a1, a2, fun j hj hjt => ?_, a4, a5, fun a ha hn => ?_⟩
    · by_cases hji : j = i
      · subst hji
        exact a3 j hj ht
      · rw [g2 j (by omega) hji] at hjt
        exact a3 j hj hjt
    · rw [va_up_ne _ _ (fun h => ?_), a6 a ha hn]
      by_cases h0 : i < nn0
      · exact hn i h0 (a3 i h0 ht) (h.trans (a2 i h0))
      · exact a5 i (by omega) hi (h ▸ ha)
/-- one thing more -/
theorem rs_more {tys : List (ClassId × FieldType)} {D : va_G} {A : Nat → Prop} {H0 : Heap} {r : Nat → Int32} {sb nL : Nat} {Z : rs_H × Nat × (Nat → Nat) × List Nat × (Nat → va_E)} {hp hp' : rs_H} {nn : Nat} {ad : Nat → Nat} {L : List Nat} {f : Nat → va_E} {H : Heap} {locs : List Loc} (hw : rs_w ((tys, D, A, H0, r, sb, nL), Z) hp nn ad L f H locs) (hf : rs_fr ((tys, D, A, H0, r, sb, nL), Z) hp nn ad L f) {o' : rs_O} {E' : va_E} (hrel : rs_rel tys (rs_den r sb ad nn) o' E') (hnn : nn < 1024) (g1 : rt_g hp' nn = o') (g2 : ∀ j, j < 2 ^ 10 → j ≠ nn → rt_g hp' j = rt_g hp j) {q : Nat} {H1 : Heap} (hP : va_P D vwCl (va_pl L f ++ [(q, E')]) H1) (hD : va_D A (va_pl L f ++ [(q, E')])) (hS : va_S A H0 H1 locs) : (∀ i, i < nn → va_up ad nn q i = ad i) ∧ va_up ad nn q nn = q ∧ rs_w ((tys, D, A, H0, r, sb, nL), Z) hp' (nn + 1) (va_up ad nn q) (L ++ [q]) (va_up f q E') H1 locs ∧ rs_fr ((tys, D, A, H0, r, sb, nL), Z) hp' (nn + 1) (va_up ad nn q) (L ++ [q]) (va_up f q E') := by
  obtain ⟨w1, w2, w3, w4, w5, w6⟩ := hw
  have hq : q ∉ L := by
    intro hq
    obtain ⟨k, hk⟩ := va_pl_get (X := []) (f := f) hq
    have hk : (va_pl L f)[k]? = some (q, f q) := hk
    have hl := (List.getElem?_eq_some_iff.mp hk).1
    have := hD.1 k (va_pl L f).length (q, f q) (q, E') (by rw [List.getElem?_append_left hl]; exact hk) (by simp) rfl
    omega
  have e := va_pl_push (f := f) (e := E') hq
  rw [e] at hP hD
  have hext : ∀ i, i < nn → va_up ad nn q i = ad i := fun i hi => va_up_ne _ _ (by omega)
  have hmono : ∀ v x, rs_den r sb ad nn v x → rs_den r sb (va_up ad nn q) (nn + 1) v x := fun v x h => rs_den_mono (by omega) hext h
  obtain ⟨hp0, nn0, ad0, L0, f0⟩ := Z
  obtain ⟨a1, a2, a3, a4, a5, a6⟩ := hf
  refine ⟨hext, va_up_self _ _ _, ⟨hP, hD, hS, fun j hj => ?_, fun i j hi hj hij => ?_, by omega⟩, ⟨by omega, fun i hi => ?_, fun j hj hjt => ?_, fun a ha => List.mem_append_left _ (a4 a ha), fun i h1 h2 hm => ?_, fun a ha hn => ?_⟩⟩
  · by_cases hjn : j = nn
    · subst hjn
      rw [g1, va_up_self, va_up_self]
      exact ⟨List.mem_append_right _ (List.mem_singleton.mpr rfl), fun _ => rs_rel_mono hmono hrel⟩
    · rw [g2 j (by omega) hjn]
      obtain ⟨b1, b2⟩ := w4 j (by omega)
      rw [hext j (by omega), va_up_ne (j := ad j) (k := q) _ _ (fun h => hq (by rw [← h]; exact b1))]
      exact ⟨List.mem_append_left _ b1, fun h => rs_rel_mono hmono (b2 h)⟩
  · by_cases h1 : i = nn
    · by_cases h2 : j = nn
      · omega
      · rw [h1, va_up_self, hext j (by omega)] at hij
        exact absurd (hij ▸ (w4 j (by omega)).1) hq
    · by_cases h2 : j = nn
      · rw [h2, va_up_self, hext i (by omega)] at hij
        exact absurd (hij ▸ (w4 i (by omega)).1) hq
      · rw [hext i (by omega), hext j (by omega)] at hij
        exact w5 i j (by omega) (by omega) hij
  · rw [hext i (by omega)]
    exact a2 i hi
  · rw [g2 j (by omega) (by omega)] at hjt
    exact a3 j hj hjt
  · by_cases hin : i = nn
    · rw [hin, va_up_self] at hm
      exact hq (a4 _ hm)
    · rw [hext i (by omega)] at hm
      exact a5 i h1 (by omega) hm
  · rw [va_up_ne (j := a) (k := q) _ _ (fun h => hq (by rw [← h]; exact a4 a ha))]
    exact a6 a ha hn
theorem rs_mkE {o : rs_O} {n capc caps : Nat} {w : rs_W} {k : rs_W → Bool} (h : rs_mk o n capc caps w k = true) : w.2.2.1 + 1 ≤ capc ∧ w.2.2.2 + n ≤ caps ∧ w.2.1 < 1024 ∧ ∃ hp', k (hp', w.2.1 + 1, w.2.2.1 + 1, w.2.2.2 + n) = true ∧ rt_g hp' w.2.1 = o ∧ ∀ j, j < 2 ^ 10 → j ≠ w.2.1 → rt_g hp' j = rt_g w.1 j := by
  unfold rs_mk at h
  obtain ⟨h1, h⟩ := rs_andE h
  obtain ⟨h2, h⟩ := rs_andE h
  obtain ⟨h3, h⟩ := rs_andE h
  have h1 := rs_ltE h1
  have h3 := rs_ltE h3
  obtain ⟨t', b1, b2, b3⟩ := rt_sE 10 _ _ _ (by omega) h
  have c1 := rs_nfE b1
  have c2 := rs_nfE c1
  have c3 := rs_nfE c2
  exact ⟨h1, rs_leE h2, h3, t', c3, b2, b3⟩
/-- locals behind a store -/
theorem rs_loc_set {dn : rs_V → Value → Prop} (hcat : ∀ v x, dn v x → x.category = 1) {nL : Nat} {lo lo' : List rs_V} {ls : Array Slot} (h : rs_loc dn nL lo ls) {i : Nat} {v : rs_V} {x : Value} (hv : dn v x) (g1 : rs_ln lo' i = v) (g2 : ∀ j, j ≠ i → rs_ln lo' j = rs_ln lo j) : ∃ lv : List (Nat × Value), lv_has ls nL lv ∧ (∀ j y, ls[j]? = some (.val y) → (j, y) ∈ lv) ∧ ∀ ls' : Array Slot, lv_has ls' nL ((i, x) :: lv.filter (fun q => !(q.1 == i) && !(q.1 + 1 == i && q.2.category == 2))) → rs_loc dn nL lo' ls' := by
  obtain ⟨h1, h2, h3⟩ := h
  refine ⟨(List.range nL).filterMap (fun j => match (ls[j]? : Option Slot) with
    | some (Slot.val y) => some (j, y)
    | _ => none), ⟨h1, h2, fun q hq => ?_⟩, fun j y hy => List.mem_filterMap.mpr ⟨j, List.mem_range.mpr (by rw [← h1]; exact (Array.getElem?_eq_some_iff.mp hy).1), by rw [hy]⟩, fun ls' hl => ⟨hl.1, hl.2.1, fun j hj => ?_⟩⟩
  · obtain ⟨j, -, hj⟩ := List.mem_filterMap.mp hq
    split at hj
    · rename_i y hy
      cases hj
      exact hy
    · cases hj
  · by_cases hji : j = i
    · subst hji
      rw [g1]
      exact ⟨x, hl.2.2 (j, x) List.mem_cons_self, hv⟩
    · rw [g2 j hji] at hj ⊢
      obtain ⟨y, e1, e2⟩ := h3 j hj
      refine ⟨y, hl.2.2 (j, y) (List.mem_cons_of_mem _ (List.mem_filter.mpr ⟨List.mem_filterMap.mpr ⟨j, List.mem_range.mpr ?_, ?_⟩, ?_⟩)), e2⟩
      · rw [← h1]
        exact (Array.getElem?_eq_some_iff.mp e1).1
      · rw [e1]
      · have := hcat _ _ e2
        simp [this, hji]
end RSG
end
section
/-! each instruction holds -/
section RSS
/-- words that hold in every state that a walk comes to -/
def rs_NU (U : State) : Prop := rk_N rk_nf rk_nm U ∧ ∀ C ∈ [RX8, RX2, RX6, RX1, RX4], va_AO C U
theorem rs_NU_warm {s U : State} (hW : s.WarmedH U.vm) (h : rs_NU s) : rs_NU U := ⟨rk_N_warm hW h.1, fun C hC => va_AO.moved hW.alike (h.2 C hC)⟩
theorem rs_NU_same {u U : State} (hv : u.vm = U.vm) (h : rs_NU u) : rs_NU U := ⟨rk_N_same hv h.1, fun C hC => va_AO.moved (by rw [hv]; exact Vm.Alike.refl _) (h.2 C hC)⟩
/-- what stands about a frame of method M with cap cells and slots -/
def rs_Cx (p : Program) (R : Room) (s : State) (m : MethodId) (args : Array Value) (meth : Method) (c : Code) (F : rs_Fx) (M : rk_Mt) (cap : Nat × Nat) (ft : List (Nat × Nat × Nat × Nat)) : Prop :=
  p.tables.exec = Jvm.exec ∧ c.code = M.2.1 ∧ (c.maxLocals = M.2.2.1 ∧ F.1.2.2.2.2.2.2 = M.2.2.1) ∧ s.vm.findClass M.1.cls = some m.cls ∧ (∀ w ∈ rk_tbl, w.before args s = true) ∧ va_K F.1.2.1 vwCl F.1.1 s ∧ (∀ q, F.1.2.2.2.1.size ≤ q → F.1.2.2.1 q) ∧ rs_NU s ∧ (M.2.2.2.2.1 ≤ R.frames ∧ M.2.2.2.2.2 ≤ R.locals ∧ cap.1 ≤ R.cells ∧ cap.2 ≤ R.slots) ∧ meth.name = M.1.name ∧ (∃ cI c1 c2 c3 c4 c5 : ClassId, F.1.1 = rk_tys cI c1 c2 c3 c4 c5) ∧ rk_FlOk s args rk_tbl M.1.cls (rk_flf ft)
def rs_KTok (p : Program) (l : Launch) (e : Env) (R : Room) (s : State) (m : MethodId) (args : Array Value) (below : List Frame) (meth : Method) (c : Code) (Q : State → Prop) (F : rs_Fx) (kt : rs_KT) : Prop := ∀ pc sk lo en w, kt pc sk lo en w = true → rs_G p l e R s m args below meth c Q F pc sk lo en w
/-- the world that a call is given, and that it gives back -/
def rs_Wd (tys : List (ClassId × FieldType)) (r : Nat → Int32) (sb : Nat) (hp : rs_H) (nn : Nat) (ad : Nat → Nat) (L : List Nat) (f : Nat → va_E) : Prop := (∀ i, i < nn → ad i ∈ L ∧ ((rt_g hp i).1 < 32 → rs_rel tys (rs_den r sb ad nn) (rt_g hp i) (f (ad i)))) ∧ (∀ i j, i < nn → j < nn → ad i = ad j → i = j) ∧ nn ≤ 1024
def rs_Q (tys : List (ClassId × FieldType)) (D : va_G) (r : Nat → Int32) (sb : Nat) (hp : rs_H) (nn : Nat) (ad : Nat → Nat) (L : List Nat) (f : Nat → va_E) (A : Nat → Prop) (ret : Option FieldType) (kr : rs_KR) : Array Value → State → Outcome → State → Prop := fun _ st oc t => (∃ (x : Option Value) (v : rs_V) (en' : rs_E) (hp' : rs_H) (nn' : Nat) (ad' : Nat → Nat) (L' : List Nat) (f' : Nat → va_E), oc = .returned x ∧ (x = none ↔ ret = none) ∧ kr v en' hp' nn' = true ∧ rs_env r en' ∧ (∀ y, x = some y → rs_den r sb ad' nn' v y) ∧ rs_Wd tys r sb hp' nn' ad' L' f' ∧ rs_fr (([], D, A, st.heap, r, sb, 0), hp, nn, ad, L, f) hp' nn' ad' L' f' ∧ va_P D vwCl (va_pl L' f') t.heap ∧ va_K D vwCl tys t ∧ va_D A (va_pl L' f')) ∧ va_F A st t
/-- a method's contract: from these things, to one of the ends that kr wants -/
def rs_Con (l : Launch) (tys : List (ClassId × FieldType)) (D : va_G) (r : Nat → Int32) (sb : Nat) (M : rk_Mt) (cap : Nat × Nat) (as : List rs_V) (en : rs_E) (hp : rs_H) (nn : Nat) (kr : rs_KR) : Prop :=
  rs_env r en → as.length ≤ M.2.2.1 → ∀ (ad : Nat → Nat) (L : List Nat) (f : Nat → va_E) (vs : List Value) (sz : Nat), rs_stk (rs_den r sb ad nn) as vs → rs_Wd tys r sb hp nn ad L f →
    Met l M.1 (rk_ws M) { frames := M.2.2.2.2.1, cells := cap.1, slots := cap.2, locals := M.2.2.2.2.2 } (va_Pc vs (rk_Pre D tys rs_NU L f sz)) (rs_Q tys D r sb hp nn ad L f (va_A (va_pl L f) sz) M.2.2.2.1 kr) cap.1 cap.2 (va_A (va_pl L f) sz)
def rs_KCok (l : Launch) (F : rs_Fx) (MT : Nat → rk_Mt × Nat × Nat) (kc : rs_KC) : Prop := ∀ q as en hp nn kr, kc q as en hp nn kr = true → rs_Con l F.1.1 F.1.2.1 F.1.2.2.2.2.1 F.1.2.2.2.2.2.1 (MT q).1 (MT q).2 as en hp nn kr
/-- the end of the frame: nothing, an int, a truth value, a thing -/
def rs_KRok (p : Program) (l : Launch) (e : Env) (R : Room) (s : State) (m : MethodId) (args : Array Value) (below : List Frame) (meth : Method) (c : Code) (Q : State → Prop) (F : rs_Fx) (M : rk_Mt) (cap : Nat × Nat) (kr : rs_KR) : Prop := ∀ (pc : Nat) (v : rs_V) (lo : List rs_V) (en : rs_E) (w : rs_W), kr v en w.1 w.2.1 = true → w.2.2.1 ≤ cap.1 → w.2.2.2 ≤ cap.2 →
  (decode M.2.1 pc = .ok (.return_, 1) → M.2.2.2.1 = none → rs_G p l e R s m args below meth c Q F pc [] lo en w) ∧
  (decode M.2.1 pc = .ok (.ireturn, 1) → M.2.2.2.1 = some .int → v.1 ≤ 3 → rs_G p l e R s m args below meth c Q F pc [v] lo en w) ∧
  (decode M.2.1 pc = .ok (.ireturn, 1) → M.2.2.2.1 = some .boolean → v.1 = 0 → v.2.1 ≤ 1 → rs_G p l e R s m args below meth c Q F pc [v] lo en w) ∧
  (decode M.2.1 pc = .ok (.areturn, 1) → (∃ rt, M.2.2.2.1 = some rt ∧ ((∃ n, rt = .object n) ∨ ∃ t, rt = .array t)) → (v.1 = 4 ∨ v.1 = 5) → rs_G p l e R s m args below meth c Q F pc [v] lo en w)
abbrev rs_Dc : Type := Nat → Nat → Nat → Nat → List Nat → Instr × Nat
abbrev rs_Ck : Type := rk_Mt → Nat × Nat → List (Nat × Nat × Nat × Nat) → Nat → Nat → Nat → Nat → List Nat → Bool
/-- the methods, their cells and slots: by number -/
def rs_Snd (MT : Nat → rk_Mt × Nat × Nat) (h : rs_Hd) (d : rs_Dc) (ck : rs_Ck) : Prop := ∀ (p : Program) (l : Launch) (e : Env) (R : Room) (s : State) (m : MethodId) (args : Array Value) (below : List Frame) (meth : Method) (c : Code) (Q : State → Prop) (F : rs_Fx) (M : rk_Mt) (cap : Nat × Nat) (ft : List (Nat × Nat × Nat × Nat)), rs_Cx p R s m args meth c F M cap ft → ∀ (pc a b c' : Nat) (l' : List Nat) (kt : rs_KT) (kc : rs_KC) (kr : rs_KR) (sk lo : List rs_V) (en : rs_E) (w : rs_W),
  decode M.2.1 pc = .ok (d pc a b c' l') → ck M cap ft pc a b c' l' = true → h a b c' l' kt kc kr pc sk lo en w = true → rs_KTok p l e R s m args below meth c Q F kt → rs_KCok l F MT kc → rs_KRok p l e R s m args below meth c Q F M cap kr → rs_G p l e R s m args below meth c Q F pc sk lo en w
variable {MT : Nat → rk_Mt × Nat × Nat}
theorem rs_goto9 {p : Program} {l : Launch} {e : Env} {R : Room} {s : State} {m : MethodId} {args : Array Value} {below : List Frame} {meth : Method} {c : Code} {Q : State → Prop} {F : rs_Fx} {kt : rs_KT} (hk : rs_KTok p l e R s m args below meth c Q F kt) {pc : Nat} {sk lo : List rs_V} {en : rs_E} {w : rs_W} (h : kt pc sk lo en w = true) {ad : Nat → Nat} {L : List Nat} {f : Nat → va_E} {H : Heap} {locs : List Loc} {ls : Array Slot} {st : List Value} (hon : rs_on F sk lo en w ad L f H locs ls st) : W p l e R s m args below meth c H locs w.2.2.1 w.2.2.2 Q (F0 m pc ls st) := hk pc sk lo en w h ad L f H locs ls st hon
theorem rs_push9 {F : rs_Fx} {sk lo : List rs_V} {en : rs_E} {w : rs_W} {ad : Nat → Nat} {L : List Nat} {f : Nat → va_E} {H : Heap} {locs : List Loc} {ls : Array Slot} {st : List Value} {v : rs_V} {x : Value} (hon : rs_on F sk lo en w ad L f H locs ls st) (hd : rs_dn F ad w.2.1 v x) : rs_on F (v :: sk) lo en w ad L f H locs ls (x :: st) := ⟨hon.1, hon.2.1, hon.2.2.1, hon.2.2.2.1, hd, hon.2.2.2.2⟩
theorem rs_pop9 {F : rs_Fx} {sk lo : List rs_V} {en : rs_E} {w : rs_W} {ad : Nat → Nat} {L : List Nat} {f : Nat → va_E} {H : Heap} {locs : List Loc} {ls : Array Slot} {st : List Value} {v : rs_V} (hon : rs_on F (v :: sk) lo en w ad L f H locs ls st) : ∃ x st', st = x :: st' ∧ rs_dn F ad w.2.1 v x ∧ rs_on F sk lo en w ad L f H locs ls st' := by
  obtain ⟨x, st', e1, e2, e3⟩ := rs_stk_cons hon.2.2.2.2
  exact ⟨x, st', e1, e2, hon.1, hon.2.1, hon.2.2.1, hon.2.2.2.1, e3⟩
theorem rs_env9 {F : rs_Fx} {sk lo : List rs_V} {en en' : rs_E} {w : rs_W} {ad : Nat → Nat} {L : List Nat} {f : Nat → va_E} {H : Heap} {locs : List Loc} {ls : Array Slot} {st : List Value} (hon : rs_on F sk lo en w ad L f H locs ls st) (he : rs_env F.1.2.2.2.2.1 en') : rs_on F sk lo en' w ad L f H locs ls st := ⟨he, hon.2⟩
def rs_tg (pc a : Nat) : Int := (a : Int) - (pc : Int)
theorem rs_tgE (pc a : Nat) : (pc : Int) + rs_tg pc a = (a : Int) := by
  unfold rs_tg
  omega
theorem rs_tru {c x : Bool} (h : (c && x) = true) : c = true ∧ x = true := by simpa using h
theorem rs_o_no : rs_Snd MT rs_h_no (fun _ _ _ _ _ => (.nop, 1)) (fun _ _ _ _ _ _ _ _ => true) := by
  intro p l e R s m args below meth c Q F M cap ft cx pc a b c' l' kt kc kr sk lo en w hdg hck h hk hc hr ad L f H locs ls st hon
  obtain ⟨hx, hb, ⟨hml, hnL⟩, hown, hts, hK, hA, hN, hroom, hnm, htys, hfl⟩ := cx
  cases h
theorem rs_o_iconst : rs_Snd MT rs_h_con (fun _ a _ _ _ => (.iconst (rs_sg a), 1)) (fun _ _ _ _ a b _ _ => decide (a < 4294967296) && Nat.beq b 1) := by
  intro p l e R s m args below meth c Q F M cap ft cx pc a b c' l' kt kc kr sk lo en w hdg hck h hk hc hr ad L f H locs ls st hon
  obtain ⟨hx, hb, ⟨hml, hnL⟩, hown, hts, hK, hA, hN, hroom, hnm, htys, hfl⟩ := cx
  obtain ⟨h1, h2⟩ := rs_tru hck
  have h2 := rs_eqE h2
  subst h2
  exact lv_iconst hx hb hdg (rs_sg_ok (of_decide_eq_true h1)) (rs_goto9 hk h (rs_push9 hon rfl))
theorem rs_o_bipush : rs_Snd MT rs_h_con (fun _ a _ _ _ => (.bipush (rs_sg a), 2)) (fun _ _ _ _ a b _ _ => decide ((Int8.ofInt (rs_sg a)).toInt32 = rs_i a) && Nat.beq b 2) := by
  intro p l e R s m args below meth c Q F M cap ft cx pc a b c' l' kt kc kr sk lo en w hdg hck h hk hc hr ad L f H locs ls st hon
  obtain ⟨hx, hb, ⟨hml, hnL⟩, hown, hts, hK, hA, hN, hroom, hnm, htys, hfl⟩ := cx
  obtain ⟨h1, h2⟩ := rs_tru hck
  have h2 := rs_eqE h2
  subst h2
  exact lv_bipush hx hb hdg (of_decide_eq_true h1) (rs_goto9 hk h (rs_push9 hon rfl))
theorem rs_o_sipush : rs_Snd MT rs_h_con (fun _ a _ _ _ => (.sipush (rs_sg a), 3)) (fun _ _ _ _ a b _ _ => decide ((Int16.ofInt (rs_sg a)).toInt32 = rs_i a) && Nat.beq b 3) := by
  intro p l e R s m args below meth c Q F M cap ft cx pc a b c' l' kt kc kr sk lo en w hdg hck h hk hc hr ad L f H locs ls st hon
  obtain ⟨hx, hb, ⟨hml, hnL⟩, hown, hts, hK, hA, hN, hroom, hnm, htys, hfl⟩ := cx
  obtain ⟨h1, h2⟩ := rs_tru hck
  have h2 := rs_eqE h2
  subst h2
  exact lv_sipush hx hb hdg (of_decide_eq_true h1) (rs_goto9 hk h (rs_push9 hon rfl))
theorem rs_o_ldc : rs_Snd MT rs_h_con (fun _ _ _ c' _ => (.ldc c', 2)) (fun M _ _ _ a b c' l' => rk_tat (.constant M.1.cls c' (rs_i a)) (rs_nth l' 0 0) && Nat.beq b 2) := by
  intro p l e R s m args below meth c Q F M cap ft cx pc a b c' l' kt kc kr sk lo en w hdg hck h hk hc hr ad L f H locs ls st hon
  obtain ⟨hx, hb, ⟨hml, hnL⟩, hown, hts, hK, hA, hN, hroom, hnm, htys, hfl⟩ := cx
  obtain ⟨h1, h2⟩ := rs_tru hck
  have h2 := rs_eqE h2
  subst h2
  exact lv_ldc hx hb hown (hts _ (rk_tat_ok h1)) hdg (rs_goto9 hk h (rs_push9 hon rfl))
theorem rs_o_ldcw : rs_Snd MT rs_h_con (fun _ _ _ c' _ => (.ldc_w c', 3)) (fun M _ _ _ a b c' l' => rk_tat (.constant M.1.cls c' (rs_i a)) (rs_nth l' 0 0) && Nat.beq b 3) := by
  intro p l e R s m args below meth c Q F M cap ft cx pc a b c' l' kt kc kr sk lo en w hdg hck h hk hc hr ad L f H locs ls st hon
  obtain ⟨hx, hb, ⟨hml, hnL⟩, hown, hts, hK, hA, hN, hroom, hnm, htys, hfl⟩ := cx
  obtain ⟨h1, h2⟩ := rs_tru hck
  have h2 := rs_eqE h2
  subst h2
  exact lv_ldcw hx hb hown (hts _ (rk_tat_ok h1)) hdg (rs_goto9 hk h (rs_push9 hon rfl))
theorem rs_o_null : rs_Snd MT rs_h_nul (fun _ _ _ _ _ => (.aconst_null, 1)) (fun _ _ _ _ _ _ _ _ => true) := by
  intro p l e R s m args below meth c Q F M cap ft cx pc a b c' l' kt kc kr sk lo en w hdg hck h hk hc hr ad L f H locs ls st hon
  obtain ⟨hx, hb, ⟨hml, hnL⟩, hown, hts, hK, hA, hN, hroom, hnm, htys, hfl⟩ := cx
  exact lv_null hx hb hdg (rs_goto9 hk h (rs_push9 hon rfl))
theorem rs_o_iload : rs_Snd MT rs_h_ild (fun _ a _ _ _ => (.iload a, 2)) (fun _ _ _ _ a b _ _ => true && Nat.beq b 2) := by
  intro p l e R s m args below meth c Q F M cap ft cx pc a b c' l' kt kc kr sk lo en w hdg hck h hk hc hr ad L f H locs ls st hon
  obtain ⟨hx, hb, ⟨hml, hnL⟩, hown, hts, hK, hA, hN, hroom, hnm, htys, hfl⟩ := cx
  obtain ⟨h1, h2⟩ := rs_tru hck
  have h2 := rs_eqE h2
  subst h2
  unfold rs_h_ild at h
  rcases hE : rs_ln lo a with ⟨t, rr⟩
  rw [hE] at h
  obtain ⟨h3, h⟩ := rs_andE h
  have h3 := rs_leE h3
  obtain ⟨x, e1, e2⟩ := hon.2.2.2.1.2.2 a (by rw [hE]; dsimp only; omega)
  rw [hE] at e2
  obtain ⟨y, rfl⟩ := rs_den_I h3 e2
  exact lv_iload hx hb hdg e1 (rs_goto9 hk h (rs_push9 hon e2))
theorem rs_o_iload_n : rs_Snd MT rs_h_ild (fun _ a _ _ _ => (.iload_n ⟨a % 4, Nat.mod_lt _ (by decide)⟩, 1)) (fun _ _ _ _ a b _ _ => Nat.blt a 4 && Nat.beq b 1) := by
  intro p l e R s m args below meth c Q F M cap ft cx pc a b c' l' kt kc kr sk lo en w hdg hck h hk hc hr ad L f H locs ls st hon
  obtain ⟨hx, hb, ⟨hml, hnL⟩, hown, hts, hK, hA, hN, hroom, hnm, htys, hfl⟩ := cx
  obtain ⟨h1, h2⟩ := rs_tru hck
  have h2 := rs_eqE h2
  subst h2
  unfold rs_h_ild at h
  rcases hE : rs_ln lo a with ⟨t, rr⟩
  rw [hE] at h
  obtain ⟨h3, h⟩ := rs_andE h
  have h3 := rs_leE h3
  obtain ⟨x, e1, e2⟩ := hon.2.2.2.1.2.2 a (by rw [hE]; dsimp only; omega)
  rw [hE] at e2
  obtain ⟨y, rfl⟩ := rs_den_I h3 e2
  exact lv_iload_n hx hb hdg (Nat.mod_eq_of_lt (by rw [Nat.blt_eq] at h1; exact h1)) e1 (rs_goto9 hk h (rs_push9 hon e2))
theorem rs_o_aload : rs_Snd MT rs_h_ald (fun _ a _ _ _ => (.aload a, 2)) (fun _ _ _ _ a b _ _ => true && Nat.beq b 2) := by
  intro p l e R s m args below meth c Q F M cap ft cx pc a b c' l' kt kc kr sk lo en w hdg hck h hk hc hr ad L f H locs ls st hon
  obtain ⟨hx, hb, ⟨hml, hnL⟩, hown, hts, hK, hA, hN, hroom, hnm, htys, hfl⟩ := cx
  obtain ⟨h1, h2⟩ := rs_tru hck
  have h2 := rs_eqE h2
  subst h2
  unfold rs_h_ald at h
  rcases hE : rs_ln lo a with ⟨t, rr⟩
  rw [hE] at h
  obtain ⟨h3, h⟩ := rs_andE h
  have h3 : t = 4 ∨ t = 5 := (rs_orE h3).imp rs_eqE rs_eqE
  obtain ⟨x, e1, e2⟩ := hon.2.2.2.1.2.2 a (by rw [hE]; dsimp only; omega)
  rw [hE] at e2
  rcases h3 with h3 | h3
  · obtain ⟨-, rfl⟩ := rs_den_R h3 e2
    exact lv_aload hx hb hdg e1 (rs_goto9 hk h (rs_push9 hon e2))
  · obtain rfl := rs_den_N h3 e2
    exact lv_aloadN hx hb hdg e1 (rs_goto9 hk h (rs_push9 hon e2))
theorem rs_o_aload_n : rs_Snd MT rs_h_ald (fun _ a _ _ _ => (.aload_n ⟨a % 4, Nat.mod_lt _ (by decide)⟩, 1)) (fun _ _ _ _ a b _ _ => Nat.blt a 4 && Nat.beq b 1) := by
  intro p l e R s m args below meth c Q F M cap ft cx pc a b c' l' kt kc kr sk lo en w hdg hck h hk hc hr ad L f H locs ls st hon
  obtain ⟨hx, hb, ⟨hml, hnL⟩, hown, hts, hK, hA, hN, hroom, hnm, htys, hfl⟩ := cx
  obtain ⟨h1, h2⟩ := rs_tru hck
  have h2 := rs_eqE h2
  subst h2
  unfold rs_h_ald at h
  rcases hE : rs_ln lo a with ⟨t, rr⟩
  rw [hE] at h
  obtain ⟨h3, h⟩ := rs_andE h
  have h3 : t = 4 ∨ t = 5 := (rs_orE h3).imp rs_eqE rs_eqE
  obtain ⟨x, e1, e2⟩ := hon.2.2.2.1.2.2 a (by rw [hE]; dsimp only; omega)
  rw [hE] at e2
  rcases h3 with h3 | h3
  · obtain ⟨-, rfl⟩ := rs_den_R h3 e2
    exact lv_aload_n hx hb hdg (Nat.mod_eq_of_lt (by rw [Nat.blt_eq] at h1; exact h1)) e1 (rs_goto9 hk h (rs_push9 hon e2))
  · obtain rfl := rs_den_N h3 e2
    exact lv_aload_nN hx hb hdg (Nat.mod_eq_of_lt (by rw [Nat.blt_eq] at h1; exact h1)) e1 (rs_goto9 hk h (rs_push9 hon e2))
theorem rs_o_istore : rs_Snd MT rs_h_ist (fun _ a _ _ _ => (.istore a, 2)) (fun M _ _ _ a b _ _ => Nat.blt a M.2.2.1 && Nat.beq b 2) := by
  intro p l e R s m args below meth c Q F M cap ft cx pc a b c' l' kt kc kr sk lo en w hdg hck h hk hc hr ad L f H locs ls st hon
  obtain ⟨hx, hb, ⟨hml, hnL⟩, hown, hts, hK, hA, hN, hroom, hnm, htys, hfl⟩ := cx
  obtain ⟨h1, h2⟩ := rs_tru hck
  rw [Nat.blt_eq, ← hnL] at h1
  have h2 := rs_eqE h2
  subst h2
  unfold rs_h_ist at h
  cases sk with
  | nil => cases h
  | cons v sk =>
    obtain ⟨h3, h⟩ := rs_andE h
    obtain ⟨x, st', rfl, hv, hon'⟩ := rs_pop9 hon
    obtain ⟨y, rfl⟩ := rs_den_I (rs_leE h3) hv
    obtain ⟨lo', b1, b2, b3⟩ := rs_lsE a lo _ h
    obtain ⟨lv, c1, c9, c2⟩ := rs_loc_set (fun _ _ => rs_den_cat) hon'.2.2.2.1 hv b2 b3
    exact lv_istore hx hb hdg c1 h1 rfl (fun ls' hl => rs_goto9 hk b1 ⟨hon'.1, hon'.2.1, hon'.2.2.1, c2 ls' hl, hon'.2.2.2.2⟩)
theorem rs_o_istore_n : rs_Snd MT rs_h_ist (fun _ a _ _ _ => (.istore_n ⟨a % 4, Nat.mod_lt _ (by decide)⟩, 1)) (fun M _ _ _ a b _ _ => (Nat.blt a M.2.2.1 && Nat.blt a 4) && Nat.beq b 1) := by
  intro p l e R s m args below meth c Q F M cap ft cx pc a b c' l' kt kc kr sk lo en w hdg hck h hk hc hr ad L f H locs ls st hon
  obtain ⟨hx, hb, ⟨hml, hnL⟩, hown, hts, hK, hA, hN, hroom, hnm, htys, hfl⟩ := cx
  obtain ⟨h1, h2⟩ := rs_tru hck
  obtain ⟨h1, h4⟩ := rs_tru h1
  rw [Nat.blt_eq, ← hnL] at h1
  have h2 := rs_eqE h2
  subst h2
  unfold rs_h_ist at h
  cases sk with
  | nil => cases h
  | cons v sk =>
    obtain ⟨h3, h⟩ := rs_andE h
    obtain ⟨x, st', rfl, hv, hon'⟩ := rs_pop9 hon
    obtain ⟨y, rfl⟩ := rs_den_I (rs_leE h3) hv
    obtain ⟨lo', b1, b2, b3⟩ := rs_lsE a lo _ h
    obtain ⟨lv, c1, c9, c2⟩ := rs_loc_set (fun _ _ => rs_den_cat) hon'.2.2.2.1 hv b2 b3
    exact lv_istore_n hx hb hdg (Nat.mod_eq_of_lt (by rw [Nat.blt_eq] at h4; exact h4)) c1 h1 rfl (fun ls' hl => rs_goto9 hk b1 ⟨hon'.1, hon'.2.1, hon'.2.2.1, c2 ls' hl, hon'.2.2.2.2⟩)
theorem rs_o_astore : rs_Snd MT rs_h_ast (fun _ a _ _ _ => (.astore a, 2)) (fun M _ _ _ a b _ _ => Nat.blt a M.2.2.1 && Nat.beq b 2) := by
  intro p l e R s m args below meth c Q F M cap ft cx pc a b c' l' kt kc kr sk lo en w hdg hck h hk hc hr ad L f H locs ls st hon
  obtain ⟨hx, hb, ⟨hml, hnL⟩, hown, hts, hK, hA, hN, hroom, hnm, htys, hfl⟩ := cx
  obtain ⟨h1, h2⟩ := rs_tru hck
  rw [Nat.blt_eq, ← hnL] at h1
  have h2 := rs_eqE h2
  subst h2
  unfold rs_h_ast at h
  cases sk with
  | nil => cases h
  | cons v sk =>
    obtain ⟨h3, h⟩ := rs_andE h
    have h3 : v.1 = 4 ∨ v.1 = 5 := (rs_orE h3).imp rs_eqE rs_eqE
    obtain ⟨x, st', rfl, hv, hon'⟩ := rs_pop9 hon
    obtain ⟨lo', b1, b2, b3⟩ := rs_lsE a lo _ h
    obtain ⟨lv, c1, c9, c2⟩ := rs_loc_set (fun _ _ => rs_den_cat) hon'.2.2.2.1 hv b2 b3
    rcases h3 with h3 | h3
    · obtain ⟨-, rfl⟩ := rs_den_R h3 hv
      exact lv_astore hx hb hdg c1 h1 rfl (fun ls' hl => rs_goto9 hk b1 ⟨hon'.1, hon'.2.1, hon'.2.2.1, c2 ls' hl, hon'.2.2.2.2⟩)
    · obtain rfl := rs_den_N h3 hv
      exact lv_astoreN hx hb hdg c1 h1 rfl (fun ls' hl => rs_goto9 hk b1 ⟨hon'.1, hon'.2.1, hon'.2.2.1, c2 ls' hl, hon'.2.2.2.2⟩)
theorem rs_o_astore_n : rs_Snd MT rs_h_ast (fun _ a _ _ _ => (.astore_n ⟨a % 4, Nat.mod_lt _ (by decide)⟩, 1)) (fun M _ _ _ a b _ _ => (Nat.blt a M.2.2.1 && Nat.blt a 4) && Nat.beq b 1) := by
  intro p l e R s m args below meth c Q F M cap ft cx pc a b c' l' kt kc kr sk lo en w hdg hck h hk hc hr ad L f H locs ls st hon
  obtain ⟨hx, hb, ⟨hml, hnL⟩, hown, hts, hK, hA, hN, hroom, hnm, htys, hfl⟩ := cx
  obtain ⟨h1, h2⟩ := rs_tru hck
  obtain ⟨h1, h4⟩ := rs_tru h1
  rw [Nat.blt_eq, ← hnL] at h1
  have h2 := rs_eqE h2
  subst h2
  unfold rs_h_ast at h
  cases sk with
  | nil => cases h
  | cons v sk =>
    obtain ⟨h3, h⟩ := rs_andE h
    have h3 : v.1 = 4 ∨ v.1 = 5 := (rs_orE h3).imp rs_eqE rs_eqE
    obtain ⟨x, st', rfl, hv, hon'⟩ := rs_pop9 hon
    obtain ⟨lo', b1, b2, b3⟩ := rs_lsE a lo _ h
    obtain ⟨lv, c1, c9, c2⟩ := rs_loc_set (fun _ _ => rs_den_cat) hon'.2.2.2.1 hv b2 b3
    rcases h3 with h3 | h3
    · obtain ⟨-, rfl⟩ := rs_den_R h3 hv
      exact lv_astore_n hx hb hdg (Nat.mod_eq_of_lt (by rw [Nat.blt_eq] at h4; exact h4)) c1 h1 rfl (fun ls' hl => rs_goto9 hk b1 ⟨hon'.1, hon'.2.1, hon'.2.2.1, c2 ls' hl, hon'.2.2.2.2⟩)
    · obtain rfl := rs_den_N h3 hv
      exact lv_astore_nN hx hb hdg (Nat.mod_eq_of_lt (by rw [Nat.blt_eq] at h4; exact h4)) c1 h1 rfl (fun ls' hl => rs_goto9 hk b1 ⟨hon'.1, hon'.2.1, hon'.2.2.1, c2 ls' hl, hon'.2.2.2.2⟩)
theorem rs_o_iinc : rs_Snd MT rs_h_inc (fun _ a b _ _ => (.iinc a (rs_sg b), 3)) (fun M _ _ _ a b _ _ => Nat.blt a M.2.2.1 && decide (b < 4294967296)) := by
  intro p l e R s m args below meth c Q F M cap ft cx pc a b c' l' kt kc kr sk lo en w hdg hck h hk hc hr ad L f H locs ls st hon
  obtain ⟨hx, hb, ⟨hml, hnL⟩, hown, hts, hK, hA, hN, hroom, hnm, htys, hfl⟩ := cx
  obtain ⟨h1, h2⟩ := rs_tru hck
  rw [Nat.blt_eq, ← hnL] at h1
  have hsg := rs_sg_ok (of_decide_eq_true h2)
  unfold rs_h_inc at h
  rcases hE : rs_ln lo a with ⟨t, x, y⟩
  rw [hE] at h
  have key : ∀ (v' : rs_V) (X : Int32) (xx : Value), ls[a]? = some (.val xx) → xx = .int X → rs_dn F ad w.2.1 v' (.int (X + rs_i b)) → rs_ls v' a lo (fun lo => kt (Nat.add pc 3) sk lo en w) = true → W p l e R s m args below meth c H locs w.2.2.1 w.2.2.2 Q (F0 m pc ls st) := by
    intro v' X xx e1 e3 hX' h9
    subst e3
    obtain ⟨lo', b1, b2, b3⟩ := rs_lsE a lo _ h9
    obtain ⟨lv, c1, c9, c2⟩ := rs_loc_set (fun _ _ => rs_den_cat) hon.2.2.2.1 hX' b2 b3
    obtain ⟨k, hkk⟩ := List.getElem?_of_mem (c9 _ _ e1)
    exact lv_iinc hx hb hdg c1 hkk (by rw [hsg]) h1 rfl (fun ls' hl => rs_goto9 hk b1 ⟨hon.1, hon.2.1, hon.2.2.1, c2 ls' hl, hon.2.2.2.2⟩)
  have he2 : t < 7 → ∃ xx, ls[a]? = some (.val xx) ∧ rs_dn F ad w.2.1 (t, x, y) xx := fun ht => by
    have := hon.2.2.2.1.2.2 a (by rw [hE]; exact ht)
    rw [hE] at this
    exact this
  rcases rs_ifE h with ⟨h3, h⟩ | ⟨-, h⟩
  · have h3 : t = 0 := rs_eqE h3
    subst h3
    obtain ⟨xx, e1, e2⟩ := he2 (by decide)
    refine key _ (rs_i x) xx e1 e2 ?_ (rs_nfE h)
    show Value.int (rs_i x + rs_i b) = .int (rs_i ((x + b) % 4294967296))
    rw [rs_i_add]
  · rcases rs_ifE h with ⟨h3, h⟩ | ⟨-, h⟩
    · have h3 : t = 1 := rs_eqE h3
      subst h3
      obtain ⟨xx, e1, e2⟩ := he2 (by decide)
      refine key _ _ xx e1 e2 ?_ (rs_nfE h)
      show Value.int (_ + rs_i y + rs_i b) = .int (_ + rs_i ((y + b) % 4294967296))
      rw [rs_add_assoc]
    · obtain ⟨h3, h⟩ := rs_andE h
      have h3 : t = 3 := rs_eqE h3
      subst h3
      obtain ⟨xx, e1, X, e2⟩ := he2 (by decide)
      exact key (3, 0, 0) X xx e1 e2 ⟨_, rfl⟩ h
end RSS
end
section
/-! numbers, branches -/
section RSS
variable {MT : Nat → rk_Mt × Nat × Nat}
/-- two numbers, one comes, or each of a number of the script is looked at -/
def rs_FnOk (f : rs_Fn) (ins : Instr) : Prop := ∀ (r : Nat → Int32) (sb : Nat) (ad : Nat → Nat) (nn : Nat) (en : rs_E) (x y : rs_V) (kv : rs_V → Bool) (ks : Nat → Bool) (xv yv : Value), f en x y kv ks = true → rs_env r en → rs_den r sb ad nn x xv → rs_den r sb ad nn y yv → (∃ (X Y z : Int32) (v : rs_V), xv = .int X ∧ yv = .int Y ∧ kv v = true ∧ rk_mop ins X Y = some z ∧ rs_den r sb ad nn v (.int z)) ∨ ∃ a, ks a = true
theorem rs_genE {ins : Instr} (hm : ∀ X Y, ∃ z, rk_mop ins X Y = some z) : rs_FnOk rs_gen ins := by
  intro r sb ad nn en x y kv ks xv yv h he hx hy
  have fin : x.1 ≤ 3 → y.1 ≤ 3 → kv (3, 0, 0) = true → (∃ (X Y z : Int32) (v : rs_V), xv = .int X ∧ yv = .int Y ∧ kv v = true ∧ rk_mop ins X Y = some z ∧ rs_den r sb ad nn v (.int z)) ∨ ∃ a, ks a = true := by
    intro h1 h2 h3
    obtain ⟨X, rfl⟩ := rs_den_I h1 hx
    obtain ⟨Y, rfl⟩ := rs_den_I h2 hy
    obtain ⟨z, hz⟩ := hm X Y
    exact Or.inl ⟨X, Y, z, _, rfl, rfl, h3, hz, z, rfl⟩
  unfold rs_gen at h
  rcases rs_ifE h with ⟨h1, h⟩ | ⟨-, h⟩
  · have h1 := rs_eqE h1
    rcases hE : rs_eg en x.2.1 with ⟨lo, hi, pa⟩
    rw [hE] at h
    rcases rs_ifE h with ⟨-, h⟩ | ⟨-, h⟩
    · exact Or.inr ⟨_, h⟩
    · obtain ⟨h2, h⟩ := rs_andE h
      exact fin (by omega) (rs_leE h2) h
  · rcases rs_ifE h with ⟨h1, h⟩ | ⟨-, h⟩
    · have h1 := rs_eqE h1
      rcases hE : rs_eg en y.2.1 with ⟨lo, hi, pa⟩
      rw [hE] at h
      rcases rs_ifE h with ⟨-, h⟩ | ⟨-, h⟩
      · exact Or.inr ⟨_, h⟩
      · obtain ⟨h2, h⟩ := rs_andE h
        exact fin (rs_leE h2) (by omega) h
    · obtain ⟨h1, h⟩ := rs_andE h
      obtain ⟨h2, h⟩ := rs_andE h
      exact fin (rs_leE h1) (rs_leE h2) h
/-- both are numbers as such -/
theorem rs_both {x y : rs_V} {n : Bool} {rest : Bool} (h : @Bool.rec (fun _ => Bool) rest n (Nat.beq (Nat.add x.1 y.1) 0) = true) : (x.1 = 0 ∧ y.1 = 0 ∧ n = true) ∨ rest = true := by
  rcases rs_ifE h with ⟨h1, h⟩ | ⟨-, h⟩
  · have h1 : x.1 + y.1 = 0 := rs_eqE h1
    exact Or.inl ⟨by omega, by omega, h⟩
  · exact Or.inr h
theorem rs_nnE {g : Nat → Nat → Nat} {ins : Instr} (hm : ∀ X Y, ∃ z, rk_mop ins X Y = some z) (hg : ∀ a b, rk_mop ins (rs_i a) (rs_i b) = some (rs_i (g a b))) : rs_FnOk (rs_f_nn g) ins := by
  intro r sb ad nn en x y kv ks xv yv h he hx hy
  rcases rs_both h with ⟨h1, h2, h⟩ | h
  · exact Or.inl ⟨_, _, _, _, rs_den_0 h1 hx, rs_den_0 h2 hy, rs_nfE h, hg _ _, rfl⟩
  · exact rs_genE hm r sb ad nn en x y kv ks xv yv h he hx hy
theorem rs_f_addE : rs_FnOk rs_f_add .iadd := by
  intro r sb ad nn en x y kv ks xv yv h he hx hy
  rcases rs_both h with ⟨h1, h2, h⟩ | h
  · exact Or.inl ⟨_, _, _, _, rs_den_0 h1 hx, rs_den_0 h2 hy, rs_nfE h, congrArg some (rs_i_add _ _), rfl⟩
  · rcases rs_ifE h with ⟨h1, h⟩ | ⟨-, h⟩
    · obtain ⟨h1, h2⟩ := rs_andE h1
      refine Or.inl ⟨_, _, _, _, rs_den_0 (rs_eqE h1) hx, rs_den_1 (rs_eqE h2) hy, rs_nfE h, rfl, ?_⟩
      show Value.int _ = Value.int _
      rw [Int32.add_comm, rs_add_assoc]
      rfl
    · rcases rs_ifE h with ⟨h1, h⟩ | ⟨-, h⟩
      · obtain ⟨h1, h2⟩ := rs_andE h1
        refine Or.inl ⟨_, _, _, _, rs_den_1 (rs_eqE h1) hx, rs_den_0 (rs_eqE h2) hy, rs_nfE h, rfl, ?_⟩
        show Value.int _ = Value.int _
        rw [rs_add_assoc]
        rfl
      · exact rs_genE (fun X Y => ⟨_, rfl⟩) r sb ad nn en x y kv ks xv yv h he hx hy
theorem rs_f_subE : rs_FnOk rs_f_sub .isub := by
  intro r sb ad nn en x y kv ks xv yv h he hx hy
  rcases rs_both h with ⟨h1, h2, h⟩ | h
  · exact Or.inl ⟨_, _, _, _, rs_den_0 h1 hx, rs_den_0 h2 hy, rs_nfE h, congrArg some (rs_i_sub _ _), rfl⟩
  · rcases rs_ifE h with ⟨h1, h⟩ | ⟨-, h⟩
    · obtain ⟨h1, h2⟩ := rs_andE h1
      refine Or.inl ⟨_, _, _, _, rs_den_1 (rs_eqE h1) hx, rs_den_0 (rs_eqE h2) hy, rs_nfE h, rfl, ?_⟩
      show Value.int _ = Value.int _
      rw [rs_x_sub]
      rfl
    · exact rs_genE (fun X Y => ⟨_, rfl⟩) r sb ad nn en x y kv ks xv yv h he hx hy
theorem rs_f_andE : rs_FnOk rs_f_and .iand := by
  intro r sb ad nn en x y kv ks xv yv h he hx hy
  rcases rs_both h with ⟨h1, h2, h⟩ | h
  · exact Or.inl ⟨_, _, _, _, rs_den_0 h1 hx, rs_den_0 h2 hy, rs_nfE h, congrArg some (rs_i_and _ _), rfl⟩
  · rcases rs_ifE h with ⟨h1, h⟩ | ⟨-, h⟩
    · obtain ⟨h1, h2⟩ := rs_andE h1
      obtain ⟨h2, h3⟩ := rs_andE h2
      refine Or.inl ⟨_, _, _, _, rs_den_1 (rs_eqE h1) hx, rs_den_0 (rs_eqE h2) hy, h, rfl, ?_⟩
      show Value.int _ = Value.int _
      rw [rs_eqE h3, rs_add0]
    · exact rs_genE (fun X Y => ⟨_, rfl⟩) r sb ad nn en x y kv ks xv yv h he hx hy
theorem rs_onlyE {x y : rs_V} {ks : Nat → Bool} (h : @Bool.rec (fun _ => Bool) (@Bool.rec (fun _ => Bool) false (ks y.2.1) (Nat.beq y.1 1)) (ks x.2.1) (Nat.beq x.1 1) = true) : ∃ a, ks a = true := by
  rcases rs_ifE h with ⟨-, h⟩ | ⟨-, h⟩
  · exact ⟨_, h⟩
  · exact ⟨_, (rs_andE h).2⟩
theorem rs_f_divE : rs_FnOk rs_f_div .idiv := by
  intro r sb ad nn en x y kv ks xv yv h he hx hy
  rcases rs_both h with ⟨h1, h2, h⟩ | h
  · obtain ⟨hp, h⟩ := rs_andE h
    obtain ⟨p1, hp⟩ := rs_andE hp
    obtain ⟨p2, p3⟩ := rs_andE hp
    refine Or.inl ⟨_, _, _, _, rs_den_0 h1 hx, rs_den_0 h2 hy, rs_nfE h, ?_, rfl⟩
    show (if rs_i y.2.1 = 0 then none else some (rs_i x.2.1 / rs_i y.2.1)) = _
    rw [if_neg (rs_i_ne0 (rs_leE p2) (rs_leE p3)), rs_i_div (rs_leE p1) (rs_leE p2) (rs_leE p3)]
    rfl
  · exact Or.inr (rs_onlyE h)
theorem rs_f_remE : rs_FnOk rs_f_rem .irem := by
  intro r sb ad nn en x y kv ks xv yv h he hx hy
  rcases rs_both h with ⟨h1, h2, h⟩ | h
  · obtain ⟨hp, h⟩ := rs_andE h
    obtain ⟨p1, hp⟩ := rs_andE hp
    obtain ⟨p2, p3⟩ := rs_andE hp
    refine Or.inl ⟨_, _, _, _, rs_den_0 h1 hx, rs_den_0 h2 hy, rs_nfE h, ?_, rfl⟩
    show (if rs_i y.2.1 = 0 then none else some (rs_i x.2.1 - rs_i x.2.1 / rs_i y.2.1 * rs_i y.2.1)) = _
    rw [if_neg (rs_i_ne0 (rs_leE p2) (rs_leE p3)), rs_i_rem (rs_leE p1) (rs_leE p2) (rs_leE p3)]
    rfl
  · rcases rs_ifE h with ⟨h1, h⟩ | ⟨-, h⟩
    · obtain ⟨h1, h2⟩ := rs_andE h1
      obtain ⟨h2, h3⟩ := rs_andE h2
      obtain ⟨h3, h4⟩ := rs_andE h3
      obtain ⟨h4, h5⟩ := rs_andE h4
      have hv := he x.2.1
      have h5 := rs_leE h5
      have ey := rs_den_0 (rs_eqE h2) hy
      rw [rs_eqE h3] at ey
      have ex := rs_den_1 (rs_eqE h1) hx
      rw [rs_eqE h4, rs_add0] at ex
      refine Or.inl ⟨_, _, _, _, ex, ey, h, ?_, rfl⟩
      show (if rs_i 2 = 0 then none else some (r x.2.1 - r x.2.1 / rs_i 2 * rs_i 2)) = _
      rw [if_neg (rs_i_ne0 (by decide) (by decide)), rs_rem2 (Nat.le_trans h5 hv.1)]
    · exact Or.inr (rs_onlyE h)
theorem rs_f_shrE : rs_FnOk rs_f_shr .ishr := by
  intro r sb ad nn en x y kv ks xv yv h he hx hy
  rcases rs_both h with ⟨h1, h2, h⟩ | h
  · obtain ⟨hp, h⟩ := rs_andE h
    exact Or.inl ⟨_, _, _, _, rs_den_0 h1 hx, rs_den_0 h2 hy, rs_nfE h, congrArg some (rs_i_shr _ (rs_leE hp)), rfl⟩
  · exact rs_genE (fun X Y => ⟨_, rfl⟩) r sb ad nn en x y kv ks xv yv h he hx hy
theorem rs_f_mulE : rs_FnOk rs_f_mul .imul := rs_nnE (fun X Y => ⟨_, rfl⟩) (fun a b => congrArg some (rs_i_mul a b))
theorem rs_f_orE : rs_FnOk rs_f_or .ior := rs_nnE (fun X Y => ⟨_, rfl⟩) (fun a b => congrArg some (rs_i_or a b))
theorem rs_f_shlE : rs_FnOk rs_f_shl .ishl := rs_nnE (fun X Y => ⟨_, rfl⟩) (fun a b => congrArg some (rs_i_shl a b))
theorem rs_f_ushrE : rs_FnOk rs_f_ushr .iushr := rs_nnE (fun X Y => ⟨_, rfl⟩) (fun a b => congrArg some (rs_i_ushr a b))
theorem rs_twoE {f : rs_Fn} {ins : Instr} (hf : rs_FnOk f ins) : rs_Snd MT (rs_two f) (fun _ _ _ _ _ => (ins, 1)) (fun _ _ _ _ _ _ _ _ => true) := by
  intro p l e R s m args below meth c Q F M cap ft cx pc a b c' l' kt kc kr sk lo en w hdg hck h hk hc hr ad L f9 H locs ls st hon
  obtain ⟨hx, hb, ⟨hml, hnL⟩, hown, hts, hK, hA, hN, hroom, hnm, htys, hfl⟩ := cx
  unfold rs_two at h
  cases sk with
  | nil => cases h
  | cons y sk =>
    cases sk with
    | nil => cases h
    | cons x sk =>
      obtain ⟨yv, s1, rfl, hy, hon1⟩ := rs_pop9 hon
      obtain ⟨xv, s2, rfl, hxx, hon2⟩ := rs_pop9 hon1
      obtain ⟨y', h, hy'⟩ := rs_resE h hon.1 hy
      obtain ⟨x', h, hx'⟩ := rs_resE h hon.1 hxx
      rcases hf _ _ _ _ en x' y' _ _ xv yv h hon.1 hx' hy' with ⟨X, Y, z, v, rfl, rfl, h1, h2, h3⟩ | ⟨z, h1⟩
      · exact rk_arW hx hb hdg h2 (rs_goto9 hk h1 (rs_push9 hon2 h3))
      · obtain ⟨en', h2, h3⟩ := rs_spE (r := F.1.2.2.2.2.1) h1 hon.1
        exact rs_goto9 hk h2 (rs_env9 (rs_push9 (rs_push9 hon2 hx') hy') h3)
theorem rs_o_iadd : rs_Snd MT (rs_two rs_f_add) (fun _ _ _ _ _ => (.iadd, 1)) (fun _ _ _ _ _ _ _ _ => true) := rs_twoE rs_f_addE
theorem rs_o_isub : rs_Snd MT (rs_two rs_f_sub) (fun _ _ _ _ _ => (.isub, 1)) (fun _ _ _ _ _ _ _ _ => true) := rs_twoE rs_f_subE
theorem rs_o_imul : rs_Snd MT (rs_two rs_f_mul) (fun _ _ _ _ _ => (.imul, 1)) (fun _ _ _ _ _ _ _ _ => true) := rs_twoE rs_f_mulE
theorem rs_o_idiv : rs_Snd MT (rs_two rs_f_div) (fun _ _ _ _ _ => (.idiv, 1)) (fun _ _ _ _ _ _ _ _ => true) := rs_twoE rs_f_divE
theorem rs_o_irem : rs_Snd MT (rs_two rs_f_rem) (fun _ _ _ _ _ => (.irem, 1)) (fun _ _ _ _ _ _ _ _ => true) := rs_twoE rs_f_remE
theorem rs_o_iand : rs_Snd MT (rs_two rs_f_and) (fun _ _ _ _ _ => (.iand, 1)) (fun _ _ _ _ _ _ _ _ => true) := rs_twoE rs_f_andE
theorem rs_o_ior : rs_Snd MT (rs_two rs_f_or) (fun _ _ _ _ _ => (.ior, 1)) (fun _ _ _ _ _ _ _ _ => true) := rs_twoE rs_f_orE
theorem rs_o_ishl : rs_Snd MT (rs_two rs_f_shl) (fun _ _ _ _ _ => (.ishl, 1)) (fun _ _ _ _ _ _ _ _ => true) := rs_twoE rs_f_shlE
theorem rs_o_ishr : rs_Snd MT (rs_two rs_f_shr) (fun _ _ _ _ _ => (.ishr, 1)) (fun _ _ _ _ _ _ _ _ => true) := rs_twoE rs_f_shrE
theorem rs_o_iushr : rs_Snd MT (rs_two rs_f_ushr) (fun _ _ _ _ _ => (.iushr, 1)) (fun _ _ _ _ _ _ _ _ => true) := rs_twoE rs_f_ushrE
theorem rs_o_pop : rs_Snd MT rs_h_pop (fun _ _ _ _ _ => (.pop, 1)) (fun _ _ _ _ _ _ _ _ => true) := by
  intro p l e R s m args below meth c Q F M cap ft cx pc a b c' l' kt kc kr sk lo en w hdg hck h hk hc hr ad L f H locs ls st hon
  obtain ⟨hx, hb, ⟨hml, hnL⟩, hown, hts, hK, hA, hN, hroom, hnm, htys, hfl⟩ := cx
  unfold rs_h_pop at h
  cases sk with
  | nil => cases h
  | cons y sk =>
    obtain ⟨yv, s1, rfl, hy, hon1⟩ := rs_pop9 hon
    exact lv_pop hx hb hdg (rs_den_cat hy) (rs_goto9 hk h hon1)
theorem rs_o_dup : rs_Snd MT rs_h_dup (fun _ _ _ _ _ => (.dup, 1)) (fun _ _ _ _ _ _ _ _ => true) := by
  intro p l e R s m args below meth c Q F M cap ft cx pc a b c' l' kt kc kr sk lo en w hdg hck h hk hc hr ad L f H locs ls st hon
  obtain ⟨hx, hb, ⟨hml, hnL⟩, hown, hts, hK, hA, hN, hroom, hnm, htys, hfl⟩ := cx
  unfold rs_h_dup at h
  cases sk with
  | nil => cases h
  | cons y sk =>
    obtain ⟨yv, s1, rfl, hy, hon1⟩ := rs_pop9 hon
    exact lv_dup hx hb hdg (rs_den_cat hy) (rs_goto9 hk h (rs_push9 (rs_push9 hon1 hy) hy))
theorem rs_o_dup2 : rs_Snd MT rs_h_dup2 (fun _ _ _ _ _ => (.dup2, 1)) (fun _ _ _ _ _ _ _ _ => true) := by
  intro p l e R s m args below meth c Q F M cap ft cx pc a b c' l' kt kc kr sk lo en w hdg hck h hk hc hr ad L f H locs ls st hon
  obtain ⟨hx, hb, ⟨hml, hnL⟩, hown, hts, hK, hA, hN, hroom, hnm, htys, hfl⟩ := cx
  unfold rs_h_dup2 at h
  cases sk with
  | nil => cases h
  | cons y sk =>
    cases sk with
    | nil => cases h
    | cons x sk =>
      obtain ⟨yv, s1, rfl, hy, hon1⟩ := rs_pop9 hon
      obtain ⟨xv, s2, rfl, hxx, hon2⟩ := rs_pop9 hon1
      exact lv_dup2_11 hx hb hdg (rs_den_cat hy) (rs_den_cat hxx) (rs_goto9 hk h (rs_push9 (rs_push9 (rs_push9 (rs_push9 hon2 hxx) hy) hxx) hy))
theorem rs_o_goto : rs_Snd MT rs_h_goto (fun pc a _ _ _ => (.goto (rs_tg pc a), 3)) (fun _ _ _ _ _ _ _ _ => true) := by
  intro p l e R s m args below meth c Q F M cap ft cx pc a b c' l' kt kc kr sk lo en w hdg hck h hk hc hr ad L f H locs ls st hon
  obtain ⟨hx, hb, ⟨hml, hnL⟩, hown, hts, hK, hA, hN, hroom, hnm, htys, hfl⟩ := cx
  exact lv_goto hx hb hdg (rs_tgE pc a) (rs_goto9 hk h hon)
def rs_cdOf (b : Nat) : ClassFile.Cond := match b with
  | 0 => .eq
  | 1 => .ne
  | 2 => .lt
  | 3 => .ge
  | 4 => .gt
  | _ => .le
theorem rs_cdE {b : Nat} (h : b ≤ 5) : rk_ct (rs_cdOf b) = b ∧ ∀ x y, rk_rel (rk_cn (rs_cdOf b)) x y → ¬ rk_rel b x y := by
  have e : b = 0 ∨ b = 1 ∨ b = 2 ∨ b = 3 ∨ b = 4 ∨ b = 5 := by omega
  rcases e with rfl | rfl | rfl | rfl | rfl | rfl <;> refine ⟨rfl, fun x y => ?_⟩ <;> simp only [rs_cdOf, rk_cn, rk_rel] <;> omega
/-- what is compared are numbers -/
theorem rs_cmpI {en : rs_E} {cd : Nat} {x y : rs_V} {kT kF : rs_E → Bool} {ks : Nat → Bool} (h : rs_cmp en cd x y kT kF ks = true) : (x.1 ≤ 3 ∧ y.1 ≤ 3) ∨ ∃ a, ks a = true := by
  unfold rs_cmp at h
  rcases rs_ifE h with ⟨h1, h⟩ | ⟨-, h⟩
  · have h1 : x.1 + y.1 = 0 := rs_eqE h1
    exact Or.inl ⟨by omega, by omega⟩
  · unfold rs_cmp2 at h
    rcases rs_ifE h with ⟨h1, h⟩ | ⟨-, h⟩
    · have h1 := rs_eqE h1
      have h2 := rs_eqE (rs_andE h).1
      exact Or.inl ⟨by omega, by omega⟩
    · rcases rs_ifE h with ⟨h1, h⟩ | ⟨-, h⟩
      · have h1 := rs_eqE h1
        rcases rs_ifE h with ⟨h2, h⟩ | ⟨h2, h⟩
        · have h2 := rs_eqE h2
          exact Or.inl ⟨by omega, by omega⟩
        · exact Or.inr ⟨_, (rs_andE h).2⟩
      · rcases rs_ifE h with ⟨h1, h⟩ | ⟨-, h⟩
        · have h1 := rs_eqE h1
          have h2 := rs_eqE (rs_andE h).1
          exact Or.inl ⟨by omega, by omega⟩
        · obtain ⟨h1, h⟩ := rs_andE h
          have h1 := rs_eqE h1
          have h2 := rs_leE (rs_andE h).1
          exact Or.inl ⟨by omega, by omega⟩
theorem rs_o_icmp : rs_Snd MT rs_h_icmp (fun pc a b _ _ => (.if_icmp (rs_cdOf b) (rs_tg pc a), 3)) (fun _ _ _ _ _ b _ _ => Nat.ble b 5) := by
  intro p l e R s m args below meth c Q F M cap ft cx pc a b c' l' kt kc kr sk lo en w hdg hck h hk hc hr ad L f H locs ls st hon
  obtain ⟨hx, hb, ⟨hml, hnL⟩, hown, hts, hK, hA, hN, hroom, hnm, htys, hfl⟩ := cx
  have hb5 := rs_leE hck
  obtain ⟨k1, k2⟩ := rs_cdE hb5
  unfold rs_h_icmp at h
  cases sk with
  | nil => cases h
  | cons y sk =>
    cases sk with
    | nil => cases h
    | cons x sk =>
      obtain ⟨yv, s1, rfl, hy, hon1⟩ := rs_pop9 hon
      obtain ⟨xv, s2, rfl, hxx, hon2⟩ := rs_pop9 hon1
      obtain ⟨y', h, hy'⟩ := rs_resE h hon.1 hy
      obtain ⟨x', h, hx'⟩ := rs_resE h hon.1 hxx
      have hi := rs_cmpI h
      rcases hi with ⟨i1, i2⟩ | ⟨z, h1⟩
      · obtain ⟨X, rfl⟩ := rs_den_I i1 hx'
        obtain ⟨Y, rfl⟩ := rs_den_I i2 hy'
        rcases rs_cmpE hb5 h hon.1 hx' hy' with ⟨en', he', h3⟩ | ⟨z, h1⟩
        · refine rk_icmp hx hb hdg (rs_tgE pc a) (fun hc9 => ?_) (fun hc9 => ?_)
          · rw [k1] at hc9
            rcases h3 with ⟨-, h3⟩ | ⟨h3, -⟩
            · exact rs_goto9 hk h3 (rs_env9 hon2 he')
            · exact absurd hc9 h3
          · rcases h3 with ⟨h3, -⟩ | ⟨-, h3⟩
            · exact absurd h3 (k2 _ _ hc9)
            · exact rs_goto9 hk h3 (rs_env9 hon2 he')
        · obtain ⟨en', h2, h3⟩ := rs_spE (r := F.1.2.2.2.2.1) h1 hon.1
          exact rs_goto9 hk h2 (rs_env9 (rs_push9 (rs_push9 hon2 hx') hy') h3)
      · obtain ⟨en', h2, h3⟩ := rs_spE (r := F.1.2.2.2.2.1) h1 hon.1
        exact rs_goto9 hk h2 (rs_env9 (rs_push9 (rs_push9 hon2 hx') hy') h3)
theorem rs_o_if0 : rs_Snd MT rs_h_if0 (fun pc a b _ _ => (.ifCond (rs_cdOf b) (rs_tg pc a), 3)) (fun _ _ _ _ _ b _ _ => Nat.ble b 5) := by
  intro p l e R s m args below meth c Q F M cap ft cx pc a b c' l' kt kc kr sk lo en w hdg hck h hk hc hr ad L f H locs ls st hon
  obtain ⟨hx, hb, ⟨hml, hnL⟩, hown, hts, hK, hA, hN, hroom, hnm, htys, hfl⟩ := cx
  have hb5 := rs_leE hck
  obtain ⟨k1, k2⟩ := rs_cdE hb5
  unfold rs_h_if0 at h
  cases sk with
  | nil => cases h
  | cons x sk =>
    obtain ⟨xv, s2, rfl, hxx, hon2⟩ := rs_pop9 hon
    obtain ⟨x', h, hx'⟩ := rs_resE h hon.1 hxx
    have hy' : rs_den F.1.2.2.2.2.1 F.1.2.2.2.2.2.1 ad w.2.1 (0, 0, 0) (.int (rs_i 0)) := rfl
    have q0 : (rs_i 0).toInt = 0 := rfl
    rcases rs_cmpI h with ⟨i1, i2⟩ | ⟨z, h1⟩
    · obtain ⟨X, rfl⟩ := rs_den_I i1 hx'
      rcases rs_cmpE hb5 h hon.1 hx' hy' with ⟨en', he', h3⟩ | ⟨z, h1⟩
      · rw [q0] at h3
        refine rk_if0 hx hb hdg (rs_tgE pc a) (fun hc9 => ?_) (fun hc9 => ?_)
        · rw [k1] at hc9
          rcases h3 with ⟨-, h3⟩ | ⟨h3, -⟩
          · exact rs_goto9 hk h3 (rs_env9 hon2 he')
          · exact absurd hc9 h3
        · rcases h3 with ⟨h3, -⟩ | ⟨-, h3⟩
          · exact absurd h3 (k2 _ _ hc9)
          · exact rs_goto9 hk h3 (rs_env9 hon2 he')
      · cases h1
    · cases h1
theorem rs_o_ifnull : rs_Snd MT rs_h_nulls (fun pc a b _ _ => (.ifnull (rs_tg pc a), 3)) (fun _ _ _ pc a b _ _ => Nat.beq b (Nat.add pc 3)) := by
  intro p l e R s m args below meth c Q F M cap ft cx pc a b c' l' kt kc kr sk lo en w hdg hck h hk hc hr ad L f H locs ls st hon
  obtain ⟨hx, hb, ⟨hml, hnL⟩, hown, hts, hK, hA, hN, hroom, hnm, htys, hfl⟩ := cx
  have hnx := rs_eqE hck
  unfold rs_h_nulls at h
  cases sk with
  | nil => cases h
  | cons x sk =>
    obtain ⟨xv, s2, rfl, hxx, hon2⟩ := rs_pop9 hon
    rcases rs_ifE h with ⟨h1, h⟩ | ⟨-, h⟩
    · obtain rfl := rs_den_N (rs_eqE h1) hxx
      exact lv_ifnullN hx hb hdg (rs_tgE pc a) (rs_goto9 hk h hon2)
    · obtain ⟨h1, h⟩ := rs_andE h
      obtain ⟨-, rfl⟩ := rs_den_R (rs_eqE h1) hxx
      subst hnx
      exact lv_ifnull hx hb hdg (rs_goto9 hk h hon2)
theorem rs_o_ifnonnull : rs_Snd MT rs_h_nulls (fun pc a b _ _ => (.ifnonnull (rs_tg pc b), 3)) (fun _ _ _ pc a b _ _ => Nat.beq a (Nat.add pc 3)) := by
  intro p l e R s m args below meth c Q F M cap ft cx pc a b c' l' kt kc kr sk lo en w hdg hck h hk hc hr ad L f H locs ls st hon
  obtain ⟨hx, hb, ⟨hml, hnL⟩, hown, hts, hK, hA, hN, hroom, hnm, htys, hfl⟩ := cx
  have hnx := rs_eqE hck
  unfold rs_h_nulls at h
  cases sk with
  | nil => cases h
  | cons x sk =>
    obtain ⟨xv, s2, rfl, hxx, hon2⟩ := rs_pop9 hon
    rcases rs_ifE h with ⟨h1, h⟩ | ⟨-, h⟩
    · obtain rfl := rs_den_N (rs_eqE h1) hxx
      subst hnx
      exact lv_ifnonnullN hx hb hdg (rs_goto9 hk h hon2)
    · obtain ⟨h1, h⟩ := rs_andE h
      obtain ⟨-, rfl⟩ := rs_den_R (rs_eqE h1) hxx
      exact lv_ifnonnull hx hb hdg (rs_tgE pc b) (rs_goto9 hk h hon2)
theorem rs_nthE (l : List Nat) (d : Nat) : ∀ (i : Nat) (x : Nat), l[i]? = some x → rs_nth l d i = x := by
  induction l with
  | nil => intro i x h; simp at h
  | cons a l ih =>
    intro i x h
    cases i with
    | zero => cases h; rfl
    | succ i => exact ih i x h
theorem rs_o_tsw : rs_Snd MT rs_h_tsw (fun pc a b c' l' => (.tableswitch (rs_tg pc c') (a : Int) ((a : Int) + (b : Int) - 1) (l'.map (rs_tg pc)).toArray, 13 + (3 - pc % 4) + 4 * b)) (fun _ _ _ _ a b _ l' => (Nat.beq l'.length b && Nat.blt 0 b) && Nat.ble (Nat.add a b) 100000) := by
  intro p l e R s m args below meth c Q F M cap ft cx pc a b c' l' kt kc kr sk lo en w hdg hck h hk hc hr ad L f H locs ls st hon
  obtain ⟨hx, hb, ⟨hml, hnL⟩, hown, hts, hK, hA, hN, hroom, hnm, htys, hfl⟩ := cx
  obtain ⟨g1, g2⟩ := rs_tru hck
  obtain ⟨g1, g3⟩ := rs_tru g1
  have g1 := rs_eqE g1
  have g2 : a + b ≤ 100000 := rs_leE g2
  rw [Nat.blt_eq] at g3
  unfold rs_h_tsw at h
  cases sk with
  | nil => cases h
  | cons x sk =>
    obtain ⟨xv, s2, rfl, hxx, hon2⟩ := rs_pop9 hon
    obtain ⟨x', h, hx'⟩ := rs_resE h hon.1 hxx
    have out : ∀ X : Int32, xv = .int X → (X.toInt < (a : Int) ∨ (a : Int) + (b : Int) - 1 < X.toInt) → ∀ en', rs_env F.1.2.2.2.2.1 en' → kt c' sk lo en' w = true → W p l e R s m args below meth c H locs w.2.2.1 w.2.2.2 Q (F0 m pc ls (xv :: s2)) := by
      intro X hX ho en' he' h9
      subst hX
      exact lv_tableOut hx hb hdg ho (rs_tgE pc c') (rs_goto9 hk h9 (rs_env9 hon2 he'))
    have inn : ∀ (X : Int32) (j : Nat), xv = .int X → X.toInt = (a : Int) + (j : Int) → j < b → ∀ en', rs_env F.1.2.2.2.2.1 en' → kt (rs_nth l' c' j) sk lo en' w = true → W p l e R s m args below meth c H locs w.2.2.1 w.2.2.2 Q (F0 m pc ls (xv :: s2)) := by
      intro X j hX hj hjb en' he' h9
      subst hX
      have hl : j < l'.length := by omega
      have e1 : l'[j]? = some l'[j] := List.getElem?_eq_getElem hl
      rw [rs_nthE l' c' j _ e1] at h9
      refine lv_tableIn hx hb (off := rs_tg pc l'[j]) hdg (by omega) (by omega) ?_ (rs_tgE pc _) (rs_goto9 hk h9 (rs_env9 hon2 he'))
      rw [show (X.toInt - (a : Int)).toNat = j by omega, List.getElem?_toArray, List.getElem?_map, e1]
      rfl
    rcases rs_ifE h with ⟨h1, h⟩ | ⟨-, h⟩
    · have ex := rs_den_0 (rs_eqE h1) hx'
      have hbt : (rs_i x'.2.1).toInt = ((x'.2.1 + 2147483648) % 4294967296 : Nat) - 2147483648 := by rw [rs_b_toInt, rs_b_i, rs_bi_e]
      obtain ⟨h32, h⟩ := rs_andE h
      have h32 := rs_leE h32
      rcases rs_ifE h with ⟨h2, h⟩ | ⟨h2, h⟩
      · obtain ⟨h2, h3⟩ := rs_andE h2
        have h2 := rs_leE h2
        have h3 : x'.2.1 - a < b := rs_ltE h3
        exact inn _ (x'.2.1 - a) ex (by omega) h3 en hon.1 h
      · refine out _ ex ?_ en hon.1 h
        by_cases q1 : a ≤ x'.2.1
        · by_cases q2 : x'.2.1 - a < b
          · exfalso
            have e1 : Nat.ble a x'.2.1 = true := Nat.ble_eq_true_of_le q1
            have e2 : Nat.ble b (Nat.sub x'.2.1 a) = false := rs_bE (fun h9 => by
              have : b ≤ x'.2.1 - a := rs_leE h9
              omega)
            have h2 : @Bool.rec (fun _ => Bool) false (@Bool.rec (fun _ => Bool) true false (Nat.ble b (Nat.sub x'.2.1 a))) (Nat.ble a x'.2.1) = false := h2
            rw [e1, e2] at h2
            cases h2
          · omega
        · omega
    · rcases rs_ifE h with ⟨h1, h⟩ | ⟨-, h⟩
      · have ex := rs_den_1 (rs_eqE h1) hx'
        have hbt := rs_b_toInt (F.1.2.2.2.2.1 x'.2.1 + rs_i x'.2.2)
        obtain ⟨en1, he1, h2⟩ := rs_ltE2 (r := F.1.2.2.2.2.1) h hon.1
        rcases h2 with ⟨h2, h3⟩ | ⟨h2, h3⟩
        · have h2 : _ < a + 2147483648 := h2
          exact out _ ex (by omega) en1 he1 h3
        · obtain ⟨en2, he2, h4⟩ := rs_ltE2 (r := F.1.2.2.2.2.1) h3 he1
          rcases h4 with ⟨h4, h5⟩ | ⟨h4, h5⟩
          · obtain ⟨en3, h6, he3⟩ := rs_spE (r := F.1.2.2.2.2.1) h5 he2
            exact rs_goto9 hk h6 (rs_env9 (rs_push9 hon2 hx') he3)
          · have h4 : a + b + 2147483648 ≤ _ := h4
            exact out _ ex (by omega) en2 he2 h5
      · obtain ⟨h1, h⟩ := rs_andE h
        obtain ⟨h2, h⟩ := rs_andE h
        obtain ⟨h3, h⟩ := rs_andE h
        have ex := rs_den_2 (rs_eqE h1) hx'
        rw [rs_eqE h2] at ex
        have hv := hon.1 x'.2.1
        rcases hE : rs_eg en x'.2.1 with ⟨lo9, hi9, pa⟩
        rw [hE] at h hv
        obtain ⟨h4, h⟩ := rs_andE h
        obtain ⟨h5, h⟩ := rs_andE h
        have h5 : pa - 3 < b := rs_ltE h5
        rw [hv.2.2.2.2 (rs_leE h4)] at ex
        have h3 := rs_eqE h3
        refine inn _ (pa - 3) ex ?_ h5 en hon.1 h
        show (rs_i (pa - 3)).toInt = _
        rw [rs_i_pos (by omega), h3]
        omega
theorem rs_o_lsw : rs_Snd MT rs_h_lsw (fun pc a b c' l' => (.lookupswitch (rs_tg pc (rs_nth l' 0 1)) #[(rs_sg a, rs_tg pc b), (rs_sg c', rs_tg pc (rs_nth l' 0 0))], 9 + (3 - pc % 4) + 16)) (fun _ _ _ _ a _ c' _ => (decide (a < 4294967296) && decide (c' < 4294967296)) && decide (rs_sg a < rs_sg c')) := by
  intro p l e R s m args below meth c Q F M cap ft cx pc a b c' l' kt kc kr sk lo en w hdg hck h hk hc hr ad L f H locs ls st hon
  obtain ⟨hx, hb, ⟨hml, hnL⟩, hown, hts, hK, hA, hN, hroom, hnm, htys, hfl⟩ := cx
  obtain ⟨g1, g3⟩ := rs_tru hck
  obtain ⟨g1, g2⟩ := rs_tru g1
  have g1 := of_decide_eq_true g1
  have g2 := of_decide_eq_true g2
  have g3 := of_decide_eq_true g3
  have sgE : ∀ q : Nat, q < 4294967296 → (rs_i q).toInt = rs_sg q := by
    intro q hq
    rw [rs_b_toInt, rs_b_i, rs_bi_e]
    unfold rs_sg
    split <;> omega
  unfold rs_h_lsw at h
  cases sk with
  | nil => cases h
  | cons x sk =>
    obtain ⟨xv, s2, rfl, hxx, hon2⟩ := rs_pop9 hon
    obtain ⟨x', h, hx'⟩ := rs_resE h hon.1 hxx
    have ya : rs_den F.1.2.2.2.2.1 F.1.2.2.2.2.2.1 ad w.2.1 (0, a, 0) (.int (rs_i a)) := rfl
    have yc : rs_den F.1.2.2.2.2.1 F.1.2.2.2.2.2.1 ad w.2.1 (0, c', 0) (.int (rs_i c')) := rfl
    rcases rs_cmpI h with ⟨i1, -⟩ | ⟨z, h1⟩
    · obtain ⟨X, rfl⟩ := rs_den_I i1 hx'
      have ord : (#[(rs_sg a, rs_tg pc b), (rs_sg c', rs_tg pc (rs_nth l' 0 0))].toList.zip (#[(rs_sg a, rs_tg pc b), (rs_sg c', rs_tg pc (rs_nth l' 0 0))].toList.drop 1)).all (fun (a, next) => a.1 < next.1) = true := by
        simp [g3]
      rcases rs_cmpE (by decide) h hon.1 hx' ya with ⟨en1, he1, ⟨r1, h1⟩ | ⟨r1, h1⟩⟩ | ⟨z, h1⟩
      · have r1 : X.toInt = (rs_i a).toInt := r1
        rw [sgE a g1] at r1
        refine lv_lookup hx hb hdg ord (off := rs_tg pc b) ?_ (rs_tgE pc b) (rs_goto9 hk h1 (rs_env9 hon2 he1))
        rw [r1]
        simp [Op.lookupswitch.offset]
      · have r1 : ¬ X.toInt = (rs_i a).toInt := r1
        rw [sgE a g1] at r1
        rcases rs_cmpE (by decide) h1 he1 hx' yc with ⟨en2, he2, ⟨r2, h2⟩ | ⟨r2, h2⟩⟩ | ⟨z, h2⟩
        · have r2 : X.toInt = (rs_i c').toInt := r2
          rw [sgE c' g2] at r2
          refine lv_lookup hx hb hdg ord (off := rs_tg pc (rs_nth l' 0 0)) ?_ (rs_tgE pc _) (rs_goto9 hk h2 (rs_env9 hon2 he2))
          rw [r2]
          have : ¬ rs_sg a = rs_sg c' := by omega
          simp [Op.lookupswitch.offset, this]
        · have r2 : ¬ X.toInt = (rs_i c').toInt := r2
          rw [sgE c' g2] at r2
          refine lv_lookup hx hb hdg ord (off := rs_tg pc (rs_nth l' 0 1)) ?_ (rs_tgE pc _) (rs_goto9 hk h2 (rs_env9 hon2 he2))
          have q1 : ¬ rs_sg a = X.toInt := fun h => r1 h.symm
          have q2 : ¬ rs_sg c' = X.toInt := fun h => r2 h.symm
          simp [Op.lookupswitch.offset, q1, q2]
        · cases h2
      · cases h1
    · cases h1
end RSS
end
section
/-! cells -/
section RSS
variable {MT : Nat → rk_Mt × Nat × Nat}
theorem rs_ix {a n : Nat} (h : a < n) (hn : n ≤ 8192) : vp_in (rs_i a) n ∧ (rs_i a).toNatClampNeg = a := by
  have h1 := rs_i_pos (a := a) (by omega)
  exact ⟨vp_in_iff.mpr ⟨by omega, by omega⟩, rs_cl (by omega)⟩
theorem rs_dpE {n : Nat} (h : n ≤ 8192) : n ≤ 2 ^ rs_dp n := by
  unfold rs_dp
  cases hb : Nat.ble n 64
  · show n ≤ 2 ^ 13
    omega
  · have := rs_leE hb
    show n ≤ 2 ^ 6
    omega
theorem rs_w_of {F : rs_Fx} {hp : rs_H} {nn : Nat} {ad : Nat → Nat} {L : List Nat} {f : Nat → va_E} {H : Heap} {locs : List Loc} (hw : rs_w F hp nn ad L f H locs) {i : Nat} (hi : i < nn) (ht : (rt_g hp i).1 < 32) : va_P F.1.2.1 vwCl (va_pl L f) H ∧ va_D F.1.2.2.1 (va_pl L f) ∧ va_S F.1.2.2.1 F.1.2.2.2.1 H locs ∧ (∃ k : Nat, (va_pl L f)[k]? = some (ad i, f (ad i))) ∧ rs_rel F.1.1 (rs_dn F ad nn) (rt_g hp i) (f (ad i)) := by
  obtain ⟨⟨tys, D, A, H0, r, sb, nL⟩, Z⟩ := F
  obtain ⟨k, h1, h2, h3⟩ := rs_at hw hi ht
  exact ⟨hw.1, hw.2.1, hw.2.2.1, ⟨k, h1⟩, h3⟩
theorem rs_w_all {F : rs_Fx} {hp : rs_H} {nn : Nat} {ad : Nat → Nat} {L : List Nat} {f : Nat → va_E} {H : Heap} {locs : List Loc} (hw : rs_w F hp nn ad L f H locs) : va_P F.1.2.1 vwCl (va_pl L f) H ∧ va_D F.1.2.2.1 (va_pl L f) ∧ va_S F.1.2.2.1 F.1.2.2.2.1 H locs ∧ nn ≤ 1024 := by
  obtain ⟨⟨tys, D, A, H0, r, sb, nL⟩, Z⟩ := F
  exact ⟨hw.1, hw.2.1, hw.2.2.1, hw.2.2.2.2.2⟩
/-- the state behind a change of one thing -/
theorem rs_up9 {F : rs_Fx} {sk sk' lo : List rs_V} {en : rs_E} {w : rs_W} {ad : Nat → Nat} {L : List Nat} {f : Nat → va_E} {H : Heap} {locs : List Loc} {ls : Array Slot} {st st' : List Value} (hon : rs_on F sk lo en w ad L f H locs ls st) (hst : rs_stk (rs_dn F ad w.2.1) sk' st') {i : Nat} (hi : i < w.2.1) (ht : (rt_g w.1 i).1 < 32) {o' : rs_O} {E' : va_E} (hrel : rs_rel F.1.1 (rs_dn F ad w.2.1) o' E') {hp' : rs_H} (g1 : rt_g hp' i = o') (g2 : ∀ j, j < 2 ^ 10 → j ≠ i → rt_g hp' j = rt_g w.1 j) {k : Nat} (hk : (va_pl L f)[k]? = some (ad i, f (ad i))) {H1 : Heap} {locs1 : List Loc} (hP : va_P F.1.2.1 vwCl ((va_pl L f).set k (ad i, E')) H1) (hD : va_D F.1.2.2.1 ((va_pl L f).set k (ad i, E'))) (hS : va_S F.1.2.2.1 F.1.2.2.2.1 H1 locs1) : rs_on F sk' lo en (hp', w.2) ad L (va_up f (ad i) E') H1 locs1 ls st' := by
  obtain ⟨⟨tys, D, A, H0, r, sb, nL⟩, Z⟩ := F
  obtain ⟨h1, h2, h3, h4, h5⟩ := hon
  obtain ⟨a1, a2⟩ := rs_up h2 h3 hi ht hrel g1 g2 hk hP hD hS
  exact ⟨h1, a1, a2, h4, hst⟩
/-- the state behind a thing more -/
theorem rs_more9 {F : rs_Fx} {sk sk' lo : List rs_V} {en : rs_E} {w : rs_W} {ad : Nat → Nat} {L : List Nat} {f : Nat → va_E} {H : Heap} {locs : List Loc} {ls : Array Slot} {st st' : List Value} (hon : rs_on F sk lo en w ad L f H locs ls st) (hst : rs_stk (rs_dn F ad w.2.1) sk' st') {o' : rs_O} {E' : va_E} (hrel : rs_rel F.1.1 (rs_dn F ad w.2.1) o' E') (hnn : w.2.1 < 1024) {hp' : rs_H} (g1 : rt_g hp' w.2.1 = o') (g2 : ∀ j, j < 2 ^ 10 → j ≠ w.2.1 → rt_g hp' j = rt_g w.1 j) {q : Nat} {H1 : Heap} (hP : va_P F.1.2.1 vwCl (va_pl L f ++ [(q, E')]) H1) (hD : va_D F.1.2.2.1 (va_pl L f ++ [(q, E')])) (hS : va_S F.1.2.2.1 F.1.2.2.2.1 H1 locs) (cs ss : Nat) : rs_on F ((4, w.2.1, 0) :: sk') lo en (hp', w.2.1 + 1, cs, ss) (va_up ad w.2.1 q) (L ++ [q]) (va_up f q E') H1 locs ls (.ref q :: st') := by
  obtain ⟨⟨tys, D, A, H0, r, sb, nL⟩, Z⟩ := F
  obtain ⟨h1, h2, h3, h4, h5⟩ := hon
  obtain ⟨a1, a0, a2, a3⟩ := rs_more h2 h3 hrel hnn g1 g2 hP hD hS
  have hm : ∀ v x, rs_den r sb ad w.2.1 v x → rs_den r sb (va_up ad w.2.1 q) (w.2.1 + 1) v x := fun v x h => rs_den_mono (by omega) a1 h
  refine ⟨h1, a2, a3, ⟨h4.1, h4.2.1, fun i hi => ?_⟩, ⟨Nat.lt_succ_self _, congrArg Value.ref a0.symm⟩, rs_stk_mono hm _ _ hst⟩
  obtain ⟨x, e1, e2⟩ := h4.2.2 i hi
  exact ⟨x, e1, hm _ _ e2⟩
/-- a field's words -/
def rs_fk (ft : List (Nat × Nat × Nat × Nat)) (a b c : Nat) : Bool := (match rk_flf ft a with
  | some q => Nat.beq q.1 b && Nat.beq q.2.1 c
  | none => false) && Nat.blt b 16
theorem rs_fkE {ft : List (Nat × Nat × Nat × Nat)} {a b c : Nat} (h : rs_fk ft a b c = true) {s : State} {args : Array Value} {own : String} (hfl : rk_FlOk s args rk_tbl own (rk_flf ft)) : b < 16 ∧ ∃ (C : String) (T : u_T) (N : Nat), vwCl[b]? = some (C, T, N) ∧ c < N ∧ ((Jvm.Cond.fieldLink own a (T c).1 (T c).2.1 (T c).2.2.1).before args s = true ∨ ∃ host : String, (Jvm.Cond.fieldLinkNest own a (T c).1 (T c).2.1 (T c).2.2.1 host).before args s = true) := by
  unfold rs_fk at h
  obtain ⟨h, h2⟩ := rs_tru h
  rw [Nat.blt_eq] at h2
  split at h
  · rename_i q hq
    obtain ⟨h3, h4⟩ := rs_tru h
    obtain ⟨q1, q2, q3⟩ := q
    have h3 := rs_eqE h3
    have h4 := rs_eqE h4
    dsimp only at h3 h4
    subst h3
    subst h4
    obtain ⟨C, T, N, ty0, c1, c2, c3, c4, c5, c6, -⟩ := hfl _ _ _ _ hq
    exact ⟨h2, C, T, N, c1, c2, c6⟩
  · cases h
theorem rs_o_get : rs_Snd MT rs_h_get (fun _ a _ _ _ => (.getfield a, 3)) (fun _ _ ft _ a b c' _ => rs_fk ft a b c') := by
  intro p l e R s m args below meth c Q F M cap ft cx pc a b c' l' kt kc kr sk lo en w hdg hck h hk hc hr ad L f H locs ls st hon
  obtain ⟨hx, hb, ⟨hml, hnL⟩, hown, hts, hK, hA, hN, hroom, hnm, htys, hfl⟩ := cx
  obtain ⟨hb16, C, T, N, c1, c2, c6⟩ := rs_fkE hck hfl
  unfold rs_h_get at h
  cases sk with
  | nil => cases h
  | cons v sk =>
    obtain ⟨xv, s2, rfl, hv, hon2⟩ := rs_pop9 hon
    obtain ⟨h1, h⟩ := rs_andE h
    obtain ⟨hi, rfl⟩ := rs_den_R (rs_eqE h1) hv
    rcases hE : rt_g w.1 v.2.1 with ⟨hd, n, fs⟩
    rw [hE] at h
    obtain ⟨h2, h⟩ := rs_andE h
    have h2 : hd = b := rs_eqE h2
    rw [← h2] at hb16 c1
    obtain ⟨h3, h⟩ := rs_andE h
    have h3 : c' < n := rs_ltE h3
    obtain ⟨hP, hD, hS, ⟨k, hk9⟩, hrel⟩ := rs_w_of hon.2.1 hi (by rw [hE]; dsimp only; omega)
    rw [hE] at hrel
    obtain ⟨vs, e1, e2, e3, e4⟩ := hrel.1 hb16
    rw [e1] at hk9
    obtain ⟨x, x1, x2⟩ := e4 c' h3
    obtain ⟨g1, -, -⟩ := rk_clsOk hd C T N c1
    rcases hT : rt_g fs c' with ⟨t, u⟩
    dsimp only at x2
    rw [hT] at h x2
    rcases c6 with hl | ⟨host, hl⟩
    · exact va_get hx hb hts g1 hown hK hP k hk9 c1 c' c2 hl (fun _ h9 => h9) x1 hdg (rs_goto9 hk h (rs_push9 hon2 x2))
    · exact va_getN hx hb hts g1 hown hK hP k hk9 c1 c' c2 hl (fun _ h9 => h9) x1 hdg (rs_goto9 hk h (rs_push9 hon2 x2))
def rs_isA : FieldType → Bool
  | .object _ => true
  | .array _ => true
  | _ => false
/-- final: in its class's constructor -/
noncomputable def rs_fin (M : rk_Mt) (a b c : Nat) (l : List Nat) : Bool := match vwCl[b]? with
  | none => false
  | some q => !(q.2.1 c).2.2.2 || ((decide (M.1.name = "<init>") && decide ((q.2.1 c).1 = M.1.cls)) && rk_tat (.fieldLink M.1.cls a (q.2.1 c).1 (q.2.1 c).2.1 (q.2.1 c).2.2.1) (rs_nth l 0 0))
theorem rs_putE {fit : rs_V → Bool} {tyok : FieldType → Bool} (hfit : ∀ (r : Nat → Int32) (sb : Nat) (ad : Nat → Nat) (nn : Nat) (v : rs_V) (x : Value) (ty : FieldType), fit v = true → tyok ty = true → rs_den r sb ad nn v x → narrow ty x = x ∧ fits ty x = true) : rs_Snd MT (rs_put fit) (fun _ a _ _ _ => (.putfield a, 3)) (fun M _ ft _ a b c' l' => (rs_fk ft a b c' && tyok (rk_ty b c')) && rs_fin M a b c' l') := by
  intro p l e R s m args below meth c Q F M cap ft cx pc a b c' l' kt kc kr sk lo en w hdg hck h hk hc hr ad L f H locs ls st hon
  obtain ⟨hx, hb, ⟨hml, hnL⟩, hown, hts, hK, hA, hN, hroom, hnm, htys, hfl⟩ := cx
  obtain ⟨hck, hck3⟩ := rs_tru hck
  obtain ⟨hck, hck2⟩ := rs_tru hck
  obtain ⟨hb16, C, T, N, c1, c2, c6⟩ := rs_fkE hck hfl
  unfold rs_put at h
  cases sk with
  | nil => cases h
  | cons u sk =>
    obtain ⟨uv, s1, rfl, hu, hon1⟩ := rs_pop9 hon
    cases sk with
    | nil => cases h
    | cons v sk =>
      obtain ⟨xv, s2, rfl, hv, hon2⟩ := rs_pop9 hon1
      obtain ⟨h1, h⟩ := rs_andE h
      obtain ⟨h1a, h⟩ := rs_andE h
      obtain ⟨hi, rfl⟩ := rs_den_R (rs_eqE h1) hv
      rcases hE : rt_g w.1 v.2.1 with ⟨hd, n, fs⟩
      rw [hE] at h
      obtain ⟨h2, h⟩ := rs_andE h
      have h2 : hd = b := rs_eqE h2
      rw [← h2] at hb16 c1 hck2 hck3
      obtain ⟨h3, h⟩ := rs_andE h
      have h3 : c' < n := rs_ltE h3
      obtain ⟨hP, hD, hS, ⟨k, hk9⟩, hrel⟩ := rs_w_of hon.2.1 hi (by rw [hE]; dsimp only; omega)
      rw [hE] at hrel
      obtain ⟨vs, e1, e2, e3, e4⟩ := hrel.1 hb16
      dsimp only at e2 e3 e4
      have hk8 := hk9
      rw [e1] at hk8
      obtain ⟨g1, g2, g3⟩ := rk_clsOk hd C T N c1
      obtain ⟨f1, f2⟩ := hfit _ _ _ _ u uv (rk_ty hd c') h1a hck2 hu
      have h32 : (2 : Nat) ^ 5 = 32 := rfl
      have h1024 : (2 : Nat) ^ 10 = 1024 := rfl
      have hnn := (rs_w_all hon.2.1).2.2.2
      obtain ⟨fs', b1, b2, b3⟩ := rt_sE 5 c' fs _ (by omega) h
      obtain ⟨hp', d1, d2, d3⟩ := rt_sE 10 v.2.1 w.1 _ (by omega) b1
      have hrel' : rs_rel F.1.1 (rs_dn F ad w.2.1) (hd, n, fs') (.inr (hd, vs.set c' uv)) := by
        refine ⟨fun _ => ⟨vs.set c' uv, rfl, by rw [List.length_set]; exact e2, e3, fun j hj => ?_⟩, fun h9 => absurd h9 (by dsimp only; omega), fun h9 => absurd h9 (by dsimp only; omega)⟩
        dsimp only at hj ⊢
        by_cases hjc : j = c'
        · subst hjc
          rw [b2]
          exact ⟨uv, List.getElem?_set_self (by omega), hu⟩
        · rw [b3 j (by omega) hjc, List.getElem?_set_ne (Ne.symm hjc)]
          exact e4 j hj
      have kk : ∀ (H1 : Heap) (locs1 : List Loc), va_P F.1.2.1 vwCl ((va_pl L f).set k (ad v.2.1, .inr (hd, vs.set c' uv))) H1 → va_D F.1.2.2.1 ((va_pl L f).set k (ad v.2.1, .inr (hd, vs.set c' uv))) → va_S F.1.2.2.1 F.1.2.2.2.1 H1 locs1 → W p l e R s m args below meth c H1 locs1 w.2.2.1 w.2.2.2 Q (F0 m (pc + 3) ls s2) := by
        intro H1 locs1 hP1 hD1 hS1
        exact rs_goto9 hk d1 (rs_up9 hon hon2.2.2.2.2 hi (by rw [hE]; dsimp only; omega) hrel' d2 d3 hk9 hP1 hD1 hS1)
      have hlk : c' < vs.length := by omega
      by_cases hfin : (T c').2.2.2 = false
      · rcases c6 with hl | ⟨host, hl⟩
        · exact va_put hx hb hts g1 (rk_ty hd) g2 g3 hown hK hP hD hS k hk8 c1 c' c2 hl (fun _ h9 => h9) hfin (g2 c' c2) f1 f2 hlk hdg kk
        · exact va_putN hx hb hts g1 (rk_ty hd) g2 g3 hown hK hP hD hS k hk8 c1 c' c2 hl (fun _ h9 => h9) hfin (g2 c' c2) f1 f2 hlk hdg kk
      · have hfin : (T c').2.2.2 = true := by simpa using hfin
        unfold rs_fin at hck3
        rw [c1] at hck3
        dsimp only at hck3
        rw [hfin] at hck3
        obtain ⟨q1, q2⟩ := rs_tru (by simpa using hck3 : ((decide (M.1.name = "<init>") && decide ((T c').1 = M.1.cls)) && rk_tat (.fieldLink M.1.cls a (T c').1 (T c').2.1 (T c').2.2.1) (rs_nth l' 0 0)) = true)
        obtain ⟨q1, q3⟩ := rs_tru q1
        exact va_putF hx hb hts g1 (rk_ty hd) g2 g3 hown hK hP hD hS k hk8 c1 c' c2 (hts _ (rk_tat_ok q2)) (fun _ h9 => h9) hfin (by rw [hnm]; exact of_decide_eq_true q1) (of_decide_eq_true q3) (g2 c' c2) f1 f2 hlk hdg kk
theorem rs_o_putI : rs_Snd MT (rs_put rs_fitI) (fun _ a _ _ _ => (.putfield a, 3)) (fun M _ ft _ a b c' l' => (rs_fk ft a b c' && decide (rk_ty b c' = .int)) && rs_fin M a b c' l') := rs_putE (tyok := fun t => decide (t = .int)) (fun r sb ad nn v x ty h1 h2 hd => by
  have h2 := of_decide_eq_true h2
  subst h2
  obtain ⟨y, rfl⟩ := rs_den_I (rs_leE h1) hd
  exact ⟨rfl, rfl⟩)
theorem rs_o_putZ : rs_Snd MT (rs_put rs_fitZ) (fun _ a _ _ _ => (.putfield a, 3)) (fun M _ ft _ a b c' l' => (rs_fk ft a b c' && decide (rk_ty b c' = .boolean)) && rs_fin M a b c' l') := rs_putE (tyok := fun t => decide (t = .boolean)) (fun r sb ad nn v x ty h1 h2 hd => by
  have h2 := of_decide_eq_true h2
  subst h2
  obtain ⟨h1, h3⟩ := rs_andE h1
  have hx := rs_den_0 (rs_eqE h1) hd
  have h3 := rs_leE h3
  subst hx
  have : v.2.1 = 0 ∨ v.2.1 = 1 := by omega
  rcases this with h | h <;> rw [h] <;> exact ⟨rfl, rfl⟩)
theorem rs_o_putA : rs_Snd MT (rs_put rs_fitA) (fun _ a _ _ _ => (.putfield a, 3)) (fun M _ ft _ a b c' l' => (rs_fk ft a b c' && rs_isA (rk_ty b c')) && rs_fin M a b c' l') := rs_putE (tyok := rs_isA) (fun r sb ad nn v x ty h1 h2 hd => by
  rcases rs_orE h1 with h1 | h1
  · obtain ⟨-, rfl⟩ := rs_den_R (rs_eqE h1) hd
    cases ty <;> first | exact ⟨rfl, rfl⟩ | cases h2
  · obtain rfl := rs_den_N (rs_eqE h1) hd
    cases ty <;> first | exact ⟨rfl, rfl⟩ | cases h2)
theorem rs_o_len : rs_Snd MT rs_h_len (fun _ _ _ _ _ => (.arraylength, 1)) (fun _ _ _ _ _ _ _ _ => true) := by
  intro p l e R s m args below meth c Q F M cap ft cx pc a b c' l' kt kc kr sk lo en w hdg hck h hk hc hr ad L f H locs ls st hon
  obtain ⟨hx, hb, ⟨hml, hnL⟩, hown, hts, hK, hA, hN, hroom, hnm, htys, hfl⟩ := cx
  unfold rs_h_len at h
  cases sk with
  | nil => cases h
  | cons v sk =>
    obtain ⟨xv, s2, rfl, hv, hon2⟩ := rs_pop9 hon
    obtain ⟨h1, h⟩ := rs_andE h
    obtain ⟨hi, rfl⟩ := rs_den_R (rs_eqE h1) hv
    rcases hE : rt_g w.1 v.2.1 with ⟨hd, n, fs⟩
    rw [hE] at h
    obtain ⟨h2, h⟩ := rs_andE h
    obtain ⟨h3, h⟩ := rs_andE h
    have h2 := rs_leE h2
    have h3 := rs_leE h3
    obtain ⟨hP, hD, hS, ⟨k, hk9⟩, hrel⟩ := rs_w_of hon.2.1 hi (by rw [hE]; dsimp only; omega)
    rw [hE] at hrel
    by_cases h16 : hd = 16
    · obtain ⟨cA, g, e1, e2, e3, e4⟩ := hrel.2.1 h16
      rw [e1] at hk9
      exact va_alen hx hb hK hP k 0 hk9 e2 rfl hdg (rs_goto9 hk h (rs_push9 hon2 rfl))
    · obtain ⟨cA, C, g, e1, e2, e3, e4⟩ := hrel.2.2 (by dsimp only; omega) h3
      rw [e1] at hk9
      exact va_alen hx hb hK hP k _ hk9 e2 rfl hdg (rs_goto9 hk h (rs_push9 hon2 rfl))
theorem rs_symIx {lo hi c B n : Nat} (h1 : (lo + c) / 4294967296 = (hi + c) / 4294967296) (h2 : 2147483648 ≤ (lo + c) % 4294967296) (h3 : (hi + c) % 4294967296 < n + 2147483648) (v1 : lo ≤ B) (v2 : B ≤ hi) : ∃ j, (lo + c) % 4294967296 - 2147483648 ≤ j ∧ j < (lo + c) % 4294967296 - 2147483648 + (hi - lo + 1) ∧ j < n ∧ ((B + c) % 4294967296 + 2147483648) % 4294967296 = j := by
  refine ⟨(lo + c) % 4294967296 - 2147483648 + (B - lo), ?_, ?_, ?_, ?_⟩ <;> omega
theorem rs_sameE {fs : Lean.RArray rs_V} {v : rs_V} : ∀ (n j : Nat), rs_same fs v n j = true → ∀ i, j ≤ i → i < j + n → rt_g fs i = v
  | 0, j, _, i, h1, h2 => by omega
  | n + 1, j, h, i, h1, h2 => by
    unfold rs_same at h
    dsimp only at h
    rcases hE : rt_g fs j with ⟨t, a, b⟩
    rw [hE] at h
    obtain ⟨q1, h⟩ := rs_andE h
    obtain ⟨q2, h⟩ := rs_andE h
    obtain ⟨q3, h⟩ := rs_andE h
    have ev : rt_g fs j = v := by
      obtain ⟨v1, v2, v3⟩ := v
      have q1 := rs_eqE q1
      have q2 := rs_eqE q2
      have q3 := rs_eqE q3
      dsimp only at q1 q2 q3
      rw [hE, q1, q2, q3]
    by_cases hi : i = j
    · rw [hi]; exact ev
    · exact rs_sameE n (j + 1) (rs_nfE h) i (by omega) (by omega)
theorem rs_symE {r : Nat → Int32} {en : rs_E} {x : rs_V} {n : Nat} {fs : Lean.RArray rs_V} {kv : rs_V → Bool} {ks : Bool} (h : rs_sym en x n fs kv ks = true) (he : rs_env r en) : (∃ j, j < n ∧ r x.2.1 + rs_i x.2.2 = rs_i j ∧ kv (rt_g fs j) = true) ∨ ks = true := by
  unfold rs_sym at h
  have hvv := he x.2.1
  rcases hG : rs_eg en x.2.1 with ⟨l, hi, pa⟩
  rw [hG] at h hvv
  obtain ⟨q1, h⟩ := rs_andE h
  obtain ⟨q2, h⟩ := rs_andE h
  obtain ⟨q3, h⟩ := rs_andE h
  have q1 := rs_eqE q1
  have q2 := rs_leE q2
  have q3 := rs_leE q3
  obtain ⟨v1, v2, -⟩ := hvv
  dsimp only at v1 v2
  generalize hs : (l + x.2.2) % 4294967296 - 2147483648 = s0 at h
  rcases hT : rt_g fs s0 with ⟨t, u⟩
  rw [hT] at h
  rcases rs_ifE h with ⟨q4, h⟩ | ⟨-, h⟩
  · left
    have hB := rs_b_add (r x.2.1) x.2.2
    have hXi := rs_of_b hB
    obtain ⟨j, j1, j2, j3, j4⟩ := rs_symIx q1 q2 q3 v1 v2
    rw [j4] at hXi
    rw [hs] at j1 j2
    refine ⟨j, j3, hXi, ?_⟩
    rw [rs_sameE _ _ q4 j j1 j2]
    exact h
  · exact Or.inr h
theorem rs_o_iald : rs_Snd MT rs_h_iald (fun _ _ _ _ _ => (.iaload, 1)) (fun _ _ _ _ _ _ _ _ => true) := by
  intro p l e R s m args below meth c Q F M cap ft cx pc a b c' l' kt kc kr sk lo en w hdg hck h hk hc hr ad L f H locs ls st hon
  obtain ⟨hx, hb, ⟨hml, hnL⟩, hown, hts, hK, hA, hN, hroom, hnm, htys, hfl⟩ := cx
  unfold rs_h_iald at h
  cases sk with
  | nil => cases h
  | cons x sk =>
    obtain ⟨xv, s1, rfl, hxx, hon1⟩ := rs_pop9 hon
    cases sk with
    | nil => cases h
    | cons v sk =>
      obtain ⟨vv, s2, rfl, hv, hon2⟩ := rs_pop9 hon1
      obtain ⟨h1, h⟩ := rs_andE h
      obtain ⟨hi, rfl⟩ := rs_den_R (rs_eqE h1) hv
      rcases hE : rt_g w.1 v.2.1 with ⟨hd, n, fs⟩
      rw [hE] at h
      obtain ⟨h2, h⟩ := rs_andE h
      have h2 : hd = 16 := rs_eqE h2
      obtain ⟨x', h, hx'⟩ := rs_resE h hon.1 hxx
      obtain ⟨hP, hD, hS, ⟨k, hk9⟩, hrel⟩ := rs_w_of hon.2.1 hi (by rw [hE]; dsimp only; omega)
      rw [hE] at hrel
      obtain ⟨cA, g, e1, e2, e3, e4⟩ := hrel.2.1 h2
      rw [e1] at hk9
      dsimp only at e3 e4 hk9
      have fin : ∀ (j : Nat) (z : rs_V), xv = .int (rs_i j) → j < n → rt_g fs j = z → kt (Nat.add pc 1) (z :: sk) lo en w = true → W p l e R s m args below meth c H locs w.2.2.1 w.2.2.2 Q (F0 m pc ls (xv :: .ref (ad v.2.1) :: s2)) := by
        intro j z hxv hj hz h9
        subst hxv
        obtain ⟨i1, i2⟩ := rs_ix hj e3
        refine va_iald hx hb hK hP k 0 hk9 e2 i1 hdg (rs_goto9 hk h9 (rs_push9 hon2 ?_))
        rw [i2, ← hz]
        exact e4 j hj
      rcases rs_ifE h with ⟨h3, h⟩ | ⟨-, h⟩
      · obtain ⟨h4, h⟩ := rs_andE h
        have h4 : x'.2.1 < n := rs_ltE h4
        rcases hT : rt_g fs x'.2.1 with ⟨t, u⟩
        dsimp only at h
        rw [hT] at h
        obtain ⟨-, h⟩ := rs_andE h
        exact fin _ _ (rs_den_0 (rs_eqE h3) hx') h4 hT h
      · obtain ⟨h3, h⟩ := rs_andE h
        have ex := rs_den_1 (rs_eqE h3) hx'
        rcases rs_symE (r := F.1.2.2.2.2.1) h hon.1 with ⟨j, j1, j2, j3⟩ | h
        · exact fin j _ (by rw [ex, j2]) j1 rfl j3
        · obtain ⟨en', h5, h6⟩ := rs_spE (r := F.1.2.2.2.2.1) h hon.1
          exact rs_goto9 hk h5 (rs_env9 (rs_push9 (rs_push9 hon2 hv) hx') h6)
theorem rs_o_aald : rs_Snd MT rs_h_aald (fun _ _ _ _ _ => (.aaload, 1)) (fun _ _ _ _ _ _ _ _ => true) := by
  intro p l e R s m args below meth c Q F M cap ft cx pc a b c' l' kt kc kr sk lo en w hdg hck h hk hc hr ad L f H locs ls st hon
  obtain ⟨hx, hb, ⟨hml, hnL⟩, hown, hts, hK, hA, hN, hroom, hnm, htys, hfl⟩ := cx
  unfold rs_h_aald at h
  cases sk with
  | nil => cases h
  | cons x sk =>
    obtain ⟨xv, s1, rfl, hxx, hon1⟩ := rs_pop9 hon
    cases sk with
    | nil => cases h
    | cons v sk =>
      obtain ⟨vv, s2, rfl, hv, hon2⟩ := rs_pop9 hon1
      obtain ⟨h1, h⟩ := rs_andE h
      obtain ⟨hi, rfl⟩ := rs_den_R (rs_eqE h1) hv
      rcases hE : rt_g w.1 v.2.1 with ⟨hd, n, fs⟩
      rw [hE] at h
      obtain ⟨h2, h⟩ := rs_andE h
      obtain ⟨h2b, h⟩ := rs_andE h
      have h2 := rs_leE h2
      have h2b := rs_leE h2b
      obtain ⟨x', h, hx'⟩ := rs_resE h hon.1 hxx
      rcases rs_ifE h with ⟨h3, h⟩ | ⟨-, h⟩
      · obtain ⟨h4, h⟩ := rs_andE h
        have h4 : x'.2.1 < n := rs_ltE h4
        obtain ⟨hP, hD, hS, ⟨k, hk9⟩, hrel⟩ := rs_w_of hon.2.1 hi (by rw [hE]; dsimp only; omega)
        rw [hE] at hrel
        obtain ⟨cA, C, g, e1, e2, e3, e4⟩ := hrel.2.2 h2 h2b
        rw [e1] at hk9
        dsimp only at e3 e4 hk9
        rcases hT : rt_g fs x'.2.1 with ⟨t, u⟩
        dsimp only at h
        rw [hT] at h
        have ex := rs_den_0 (rs_eqE h3) hx'
        subst ex
        obtain ⟨i1, i2⟩ := rs_ix h4 e3
        refine va_aldq hx hb hK hP k _ hk9 e2 i1 hdg (rs_goto9 hk h (rs_push9 hon2 ?_))
        rw [i2, ← hT]
        exact e4 _ h4
      · obtain ⟨h3, h⟩ := rs_andE h
        obtain ⟨en', h5, h6⟩ := rs_spE (r := F.1.2.2.2.2.1) h hon.1
        exact rs_goto9 hk h5 (rs_env9 (rs_push9 (rs_push9 hon2 hv) hx') h6)
theorem rs_o_iast : rs_Snd MT rs_h_iast (fun _ _ _ _ _ => (.iastore, 1)) (fun _ _ _ _ _ _ _ _ => true) := by
  intro p l e R s m args below meth c Q F M cap ft cx pc a b c' l' kt kc kr sk lo en w hdg hck h hk hc hr ad L f H locs ls st hon
  obtain ⟨hx, hb, ⟨hml, hnL⟩, hown, hts, hK, hA, hN, hroom, hnm, htys, hfl⟩ := cx
  unfold rs_h_iast at h
  cases sk with
  | nil => cases h
  | cons u sk =>
    obtain ⟨uv, s0, rfl, hu, hon0⟩ := rs_pop9 hon
    cases sk with
    | nil => cases h
    | cons x sk =>
      obtain ⟨xv, s1, rfl, hxx, hon1⟩ := rs_pop9 hon0
      cases sk with
      | nil => cases h
      | cons v sk =>
        obtain ⟨vv, s2, rfl, hv, hon2⟩ := rs_pop9 hon1
        obtain ⟨h1, h⟩ := rs_andE h
        obtain ⟨h1b, h⟩ := rs_andE h
        obtain ⟨hi, rfl⟩ := rs_den_R (rs_eqE h1) hv
        obtain ⟨U, rfl⟩ := rs_den_I (rs_leE h1b) hu
        rcases hE : rt_g w.1 v.2.1 with ⟨hd, n, fs⟩
        rw [hE] at h
        obtain ⟨h2, h⟩ := rs_andE h
        have h2 : hd = 16 := rs_eqE h2
        obtain ⟨x', h, hx'⟩ := rs_resE h hon.1 hxx
        rcases rs_ifE h with ⟨h3, h⟩ | ⟨-, h⟩
        · obtain ⟨h4, h⟩ := rs_andE h
          have h4 : x'.2.1 < n := rs_ltE h4
          obtain ⟨hP, hD, hS, ⟨k, hk9⟩, hrel⟩ := rs_w_of hon.2.1 hi (by rw [hE]; dsimp only; omega)
          rw [hE] at hrel
          obtain ⟨cA, g, e1, e2, e3, e4⟩ := hrel.2.1 h2
          have hk8 := hk9
          rw [e1] at hk8
          dsimp only at e3 e4 hk8
          have ex := rs_den_0 (rs_eqE h3) hx'
          subst ex
          obtain ⟨i1, i2⟩ := rs_ix h4 e3
          have hdp := rs_dpE e3
          have h1024 : (2 : Nat) ^ 10 = 1024 := rfl
          have hnn := (rs_w_all hon.2.1).2.2.2
          obtain ⟨fs', b1, b2, b3⟩ := rt_sE (rs_dp n) x'.2.1 fs _ (by omega) h
          obtain ⟨hp', d1, d2, d3⟩ := rt_sE 10 v.2.1 w.1 _ (by omega) b1
          refine va_iast hx hb hK hP hD hS k 0 hk8 e2 i1 hdg (fun H1 locs1 hP1 hD1 hS1 => ?_)
          rw [i2] at hP1 hD1
          refine rs_goto9 hk d1 (rs_up9 hon hon2.2.2.2.2 hi (by rw [hE]; dsimp only; omega) ⟨fun h9 => absurd h9 (by dsimp only; omega), fun _ => ⟨cA, _, rfl, e2, e3, fun j hj => ?_⟩, fun h9 => absurd h9 (by dsimp only; omega)⟩ d2 d3 hk9 hP1 hD1 hS1)
          dsimp only at hj ⊢
          by_cases hjx : j = x'.2.1
          · subst hjx
            rw [b2, pk_us]
            exact hu
          · rw [b3 j (by omega) hjx, pk_un hjx]
            exact e4 j hj
        · obtain ⟨h3, h⟩ := rs_andE h
          obtain ⟨en', h5, h6⟩ := rs_spE (r := F.1.2.2.2.2.1) h hon.1
          exact rs_goto9 hk h5 (rs_env9 (rs_push9 (rs_push9 (rs_push9 hon2 hv) hx') hu) h6)
theorem rs_aokE {hd ci : Nat} (h : rs_aok hd ci = true) {cI c1 c2 c3 c4 c5 : ClassId} : 17 ≤ hd ∧ hd ≤ 31 ∧ ci < 16 ∧ ∃ (q : vw_C) (cA : ClassId), vwCl[ci]? = some q ∧ (rk_tys cI c1 c2 c3 c4 c5)[hd - 16]? = some (cA, .object q.1) := by
  unfold rs_aok at h
  rcases rs_ifE h with ⟨h1, h⟩ | ⟨-, h⟩
  · have e1 : hd = 17 := rs_eqE h1; have e2 : ci = 7 := rs_eqE h; rw [e1, e2]
    exact ⟨by decide, by decide, by decide, _, _, rfl, rfl⟩
  · rcases rs_ifE h with ⟨h1, h⟩ | ⟨-, h⟩
    · have e1 : hd = 18 := rs_eqE h1; have e2 : ci = 2 := rs_eqE h; rw [e1, e2]
      exact ⟨by decide, by decide, by decide, _, _, rfl, rfl⟩
    · rcases rs_ifE h with ⟨h1, h⟩ | ⟨-, h⟩
      · have e1 : hd = 19 := rs_eqE h1; have e2 : ci = 5 := rs_eqE h; rw [e1, e2]
        exact ⟨by decide, by decide, by decide, _, _, rfl, rfl⟩
      · rcases rs_ifE h with ⟨h1, h⟩ | ⟨-, h⟩
        · have e1 : hd = 20 := rs_eqE h1; have e2 : ci = 1 := rs_eqE h; rw [e1, e2]
          exact ⟨by decide, by decide, by decide, _, _, rfl, rfl⟩
        · rcases rs_ifE h with ⟨h1, h⟩ | ⟨-, h⟩
          · have e1 : hd = 21 := rs_eqE h1; have e2 : ci = 4 := rs_eqE h; rw [e1, e2]
            exact ⟨by decide, by decide, by decide, _, _, rfl, rfl⟩
          · cases h
theorem rs_o_aast : rs_Snd MT rs_h_aast (fun _ _ _ _ _ => (.aastore, 1)) (fun _ _ _ _ _ _ _ _ => true) := by
  intro p l e R s m args below meth c Q F M cap ft cx pc a b c' l' kt kc kr sk lo en w hdg hck h hk hc hr ad L f H locs ls st hon
  obtain ⟨hx, hb, ⟨hml, hnL⟩, hown, hts, hK, hA, hN, hroom, hnm, htys, hfl⟩ := cx
  unfold rs_h_aast at h
  cases sk with
  | nil => cases h
  | cons u sk =>
    obtain ⟨uv, s0, rfl, hu, hon0⟩ := rs_pop9 hon
    cases sk with
    | nil => cases h
    | cons x sk =>
      obtain ⟨xv, s1, rfl, hxx, hon1⟩ := rs_pop9 hon0
      cases sk with
      | nil => cases h
      | cons v sk =>
        obtain ⟨vv, s2, rfl, hv, hon2⟩ := rs_pop9 hon1
        obtain ⟨h1, h⟩ := rs_andE h
        obtain ⟨h1b, h⟩ := rs_andE h
        obtain ⟨h1c, h⟩ := rs_andE h
        obtain ⟨hi, rfl⟩ := rs_den_R (rs_eqE h1) hv
        have ex := rs_den_0 (rs_eqE h1b) hxx
        obtain ⟨hui, rfl⟩ := rs_den_R (rs_eqE h1c) hu
        subst ex
        rcases hE : rt_g w.1 v.2.1 with ⟨hd, n, fs⟩
        rw [hE] at h
        obtain ⟨h2, h⟩ := rs_andE h
        obtain ⟨h4, h⟩ := rs_andE h
        have h4 : x.2.1 < n := rs_ltE h4
        obtain ⟨cI, c1, c2, c3, c4, c5, hty⟩ := htys
        obtain ⟨o1, o2, o3, q, cB, o4, o5⟩ := rs_aokE h2 (cI := cI) (c1 := c1) (c2 := c2) (c3 := c3) (c4 := c4) (c5 := c5)
        rw [← hty] at o5
        obtain ⟨hP, hD, hS, ⟨k, hk9⟩, hrel⟩ := rs_w_of hon.2.1 hi (by rw [hE]; dsimp only; omega)
        rw [hE] at hrel
        obtain ⟨cA, C, g, e1, e2, e3, e4⟩ := hrel.2.2 o1 o2
        have hk8 := hk9
        rw [e1] at hk8
        dsimp only at e2 e3 e4 hk8
        rw [o5] at e2
        cases e2
        obtain ⟨-, -, -, ⟨ku, hku⟩, hrelu⟩ := rs_w_of hon.2.1 hui (by omega)
        obtain ⟨vs, w1, w2, w3, w4⟩ := hrelu.1 o3
        rw [w1] at hku
        obtain ⟨i1, i2⟩ := rs_ix h4 e3
        have hdp := rs_dpE e3
        have h1024 : (2 : Nat) ^ 10 = 1024 := rfl
        have hnn := (rs_w_all hon.2.1).2.2.2
        obtain ⟨fs', b1, b2, b3⟩ := rt_sE (rs_dp n) x.2.1 fs _ (by omega) h
        obtain ⟨hp', d1, d2, d3⟩ := rt_sE 10 v.2.1 w.1 _ (by omega) b1
        refine va_astq hx hb hK hP hD hS k (hd - 16) ku _ hk8 o5 hku o4 i1 hdg (fun H1 locs1 hP1 hD1 hS1 => ?_)
        rw [i2] at hP1 hD1
        have hrel' : rs_rel F.1.1 (rs_dn F ad w.2.1) (hd, n, fs') (.inl (cB, n, .inr (.inr (.inr (.inr (va_up g x.2.1 (some (ad u.2.1)))))))) := by
          refine ⟨fun h9 => absurd h9 (by dsimp only; omega), fun h9 => absurd h9 (by dsimp only; omega), fun _ _ => ⟨cB, q.1, va_up g x.2.1 (some (ad u.2.1)), rfl, o5, e3, fun j hj => ?_⟩⟩
          dsimp only at hj ⊢
          by_cases hjx : j = x.2.1
          · subst hjx
            rw [b2, va_up_self]
            exact hu
          · rw [b3 j (by omega) hjx, va_up_ne _ _ hjx]
            exact e4 j hj
        exact rs_goto9 hk d1 (rs_up9 hon hon2.2.2.2.2 hi (by rw [hE]; dsimp only; omega) hrel' d2 d3 hk9 hP1 hD1 hS1)
end RSS
end
section
/-! things made, calls, ends -/
section RSS
variable {MT : Nat → rk_Mt × Nat × Nat}
def rs_dft (ty : FieldType) (v : rs_V) : Bool := match ty with
  | .int => Nat.beq v.1 0 && Nat.beq v.2.1 0
  | .boolean => Nat.beq v.1 0 && Nat.beq v.2.1 0
  | .object _ => Nat.beq v.1 5
  | .array _ => Nat.beq v.1 5
  | _ => false
theorem rs_dftE {r : Nat → Int32} {sb : Nat} {ad : Nat → Nat} {nn : Nat} {ty : FieldType} {v : rs_V} (h : rs_dft ty v = true) : rs_den r sb ad nn v (defaultValue ty) := by
  obtain ⟨t, a, c⟩ := v
  cases ty with
  | int =>
    obtain ⟨h1, h2⟩ := rs_tru h
    have e1 : t = 0 := rs_eqE h1
    have e2 : a = 0 := rs_eqE h2
    rw [e1, e2]
    rfl
  | boolean =>
    obtain ⟨h1, h2⟩ := rs_tru h
    have e1 : t = 0 := rs_eqE h1
    have e2 : a = 0 := rs_eqE h2
    rw [e1, e2]
    rfl
  | object n =>
    have e1 : t = 5 := rs_eqE h
    rw [e1]
    rfl
  | array n =>
    have e1 : t = 5 := rs_eqE h
    rw [e1]
    rfl
  | _ => cases h
/-- the words of a class that is made -/
noncomputable def rs_newc (M : rk_Mt) (a b c : Nat) (l : List Nat) : Bool := match vwCl[b]? with
  | none => false
  | some q => (Nat.beq q.2.2 c && rk_tat (.classLink M.1.cls a q.1) (rs_nth l 0 2)) && (rk_tat (.instantiable q.1 c) (rs_nth l 0 3) && rk_tat (.initialized q.1) (rs_nth l 0 4))
noncomputable def rs_capc (cap : Nat × Nat) (l : List Nat) : Bool := Nat.ble (rs_nth l 0 0) cap.1 && Nat.ble (rs_nth l 0 1) cap.2
theorem rs_o_new : rs_Snd MT rs_h_new (fun _ a _ _ _ => (.new a, 3)) (fun M cap _ _ a b c' l' => (rs_newc M a b c' l' && rs_capc cap l') && ((Nat.blt b 16 && Nat.ble c' 32) && (List.range c').all (fun k => rs_dft (rk_ty b k) (rt_g (rt_g rs_dv b) k)))) := by
  intro p l e R s m args below meth c Q F M cap ft cx pc a b c' l' kt kc kr sk lo en w hdg hck h hk hc hr ad L f H locs ls st hon
  obtain ⟨hx, hb, ⟨hml, hnL⟩, hown, hts, hK, hA, hN, hroom, hnm, htys, hfl⟩ := cx
  obtain ⟨k1, k2⟩ := rs_tru hck
  obtain ⟨k1, k3⟩ := rs_tru k1
  obtain ⟨k2, k4⟩ := rs_tru k2
  obtain ⟨k2, k5⟩ := rs_tru k2
  obtain ⟨k3, k6⟩ := rs_tru k3
  have k3 := rs_leE k3
  have k6 := rs_leE k6
  have k5 := rs_leE k5
  rw [Nat.blt_eq] at k2
  unfold rs_newc at k1
  split at k1
  · cases k1
  · rename_i q hq
    obtain ⟨Cn, T, N⟩ := q
    obtain ⟨k1, k7⟩ := rs_tru k1
    obtain ⟨k1, k8⟩ := rs_tru k1
    obtain ⟨k7, k9⟩ := rs_tru k7
    have k1 := rs_eqE k1
    dsimp only at k1 k7 k8 k9
    have hNc : N = c' := k1
    subst hNc
    obtain ⟨g1, g2, g3⟩ := rk_clsOk b Cn T N hq
    obtain ⟨m1, m2, m3, hp', m4, m5, m6⟩ := rs_mkE h
    obtain ⟨hP, hD, hS, hnn⟩ := rs_w_all hon.2.1
    have hdv : ∀ k, k < N → rs_dft (rk_ty b k) (rt_g (rt_g rs_dv b) k) = true := fun k hk9 => List.all_eq_true.mp k4 k (List.mem_range.mpr hk9)
    refine va_new hx hb hts g1 (rk_ty b) g2 hown (hts _ (rk_tat_ok k8)) (hts _ (rk_tat_ok k7)) (hts _ (rk_tat_ok k9)) hK hP hD hS hA hq (fs := (List.range N).map (fun k => defaultValue (rk_ty b k))) (fun j hj => ?_) (by omega) (by omega) hdg (fun qa H1 hP1 hD1 hS1 => ?_)
    · show _ = ((List.range N).map (fun k => defaultValue (rk_ty b k))).getD j .null
      rw [List.getD_eq_getElem?_getD, List.getElem?_map, List.getElem?_range hj]
      rfl
    · refine rs_goto9 hk m4 (rs_more9 hon hon.2.2.2.2 (o' := (b, N, rt_g rs_dv b)) ⟨fun _ => ⟨_, rfl, by rw [List.length_map, List.length_range], k5, fun k hk9 => ⟨defaultValue (rk_ty b k), ?_, rs_dftE (hdv k hk9)⟩⟩, fun h9 => absurd h9 (by dsimp only; omega), fun h9 => absurd h9 (by dsimp only; omega)⟩ m3 m5 m6 hP1 hD1 hS1 _ _)
      dsimp only at hk9
      rw [List.getElem?_map, List.getElem?_range hk9]
      rfl
theorem rs_o_newa : rs_Snd MT rs_h_newa (fun _ _ _ _ _ => (.newarray .int, 2)) (fun _ cap _ _ _ _ _ l' => rk_tat (.arrayClass .int) (rs_nth l' 0 2) && rs_capc cap l') := by
  intro p l e R s m args below meth c Q F M cap ft cx pc a b c' l' kt kc kr sk lo en w hdg hck h hk hc hr ad L f H locs ls st hon
  obtain ⟨hx, hb, ⟨hml, hnL⟩, hown, hts, hK, hA, hN, hroom, hnm, htys, hfl⟩ := cx
  obtain ⟨k1, k3⟩ := rs_tru hck
  obtain ⟨k3, k6⟩ := rs_tru k3
  have k3 := rs_leE k3
  have k6 := rs_leE k6
  obtain ⟨cI, c1, c2, c3, c4, c5, hty⟩ := htys
  have t6 : F.1.1[0]? = some (cI, .int) := by rw [hty]; rfl
  unfold rs_h_newa at h
  cases sk with
  | nil => cases h
  | cons v sk =>
    obtain ⟨xv, s2, rfl, hv, hon2⟩ := rs_pop9 hon
    obtain ⟨h1, h⟩ := rs_andE h
    obtain ⟨h2, h⟩ := rs_andE h
    have h2 := rs_leE h2
    have ex := rs_den_0 (rs_eqE h1) hv
    subst ex
    obtain ⟨m1, m2, m3, hp', m4, m5, m6⟩ := rs_mkE h
    obtain ⟨hP, hD, hS, hnn⟩ := rs_w_all hon.2.1
    have hpos := rs_i_pos (a := v.2.1) (by omega)
    refine va_newa (atype := .int) (ty := .int) hx hb (hts _ (rk_tat_ok k1)) rfl hK hP hD hS hA (n := rs_i v.2.1) (N' := v.2.1) (a0 := (v.2.1, .inl (fun _ => 0))) (fun cA => rfl) (by
      intro h
      rw [Int32.lt_iff_toInt_lt] at h
      have : (0 : Int32).toInt = 0 := rfl
      omega) (rs_cl (by omega)) (by rw [show componentBytes FieldType.int = 4 from rfl]; omega) (by omega) (by omega) hdg (fun q cA H1 hK1 hP1 hD1 hS1 => ?_)
    have hcA : cA = cI := by
      have e1 : s.vm.findClass ("[" ++ FieldType.int.toString) = some cA := (hK1.2 F.1.1.length (cA, .int) (by simp)).2
      have e2 : s.vm.findClass ("[" ++ FieldType.int.toString) = some cI := (hK.2 0 _ t6).2
      exact Option.some.inj (e1.symm.trans e2)
    subst hcA
    exact rs_goto9 hk m4 (rs_more9 hon hon2.2.2.2.2 (o' := (16, v.2.1, .leaf (0, 0, 0))) ⟨fun h9 => absurd h9 (by dsimp only; omega), fun _ => ⟨cA, _, rfl, t6, h2, fun k hk9 => rfl⟩, fun h9 => absurd h9 (by dsimp only; omega)⟩ m3 m5 m6 hP1 hD1 hS1 _ _)
def rs_an (t0 : Nat) : String := match t0 with
  | 1 => RX8
  | 2 => RX2
  | 3 => RX6
  | 4 => RX1
  | _ => RX4
theorem rs_anE {t0 : Nat} (h1 : 1 ≤ t0) (h2 : t0 ≤ 5) (cI c1 c2 c3 c4 c5 : ClassId) : rs_an t0 ∈ [RX8, RX2, RX6, RX1, RX4] ∧ ∃ cA : ClassId, (rk_tys cI c1 c2 c3 c4 c5)[t0]? = some (cA, .object (rs_an t0)) := by
  have e : t0 = 1 ∨ t0 = 2 ∨ t0 = 3 ∨ t0 = 4 ∨ t0 = 5 := by omega
  rcases e with rfl | rfl | rfl | rfl | rfl
  · exact ⟨List.mem_of_getElem? (i := 0) rfl, _, rfl⟩
  · exact ⟨List.mem_of_getElem? (i := 1) rfl, _, rfl⟩
  · exact ⟨List.mem_of_getElem? (i := 2) rfl, _, rfl⟩
  · exact ⟨List.mem_of_getElem? (i := 3) rfl, _, rfl⟩
  · exact ⟨List.mem_of_getElem? (i := 4) rfl, _, rfl⟩
theorem rs_o_anew : rs_Snd MT rs_h_anew (fun _ a _ _ _ => (.anewarray a, 3)) (fun M cap _ _ a b _ l' => (rk_tat (.classLink M.1.cls a (rs_an b)) (rs_nth l' 0 2) && rs_capc cap l') && (Nat.ble 1 b && Nat.ble b 5)) := by
  intro p l e R s m args below meth c Q F M cap ft cx pc a b c' l' kt kc kr sk lo en w hdg hck h hk hc hr ad L f H locs ls st hon
  obtain ⟨hx, hb, ⟨hml, hnL⟩, hown, hts, hK, hA, hN, hroom, hnm, htys, hfl⟩ := cx
  obtain ⟨k1, k2⟩ := rs_tru hck
  obtain ⟨k1, k3⟩ := rs_tru k1
  obtain ⟨k2, k4⟩ := rs_tru k2
  obtain ⟨k3, k6⟩ := rs_tru k3
  have k3 := rs_leE k3
  have k6 := rs_leE k6
  have k2 := rs_leE k2
  have k4 := rs_leE k4
  obtain ⟨cI, c1, c2, c3, c4, c5, hty⟩ := htys
  obtain ⟨n1, cB, n2⟩ := rs_anE k2 k4 cI c1 c2 c3 c4 c5
  rw [← hty] at n2
  unfold rs_h_anew at h
  cases sk with
  | nil => cases h
  | cons v sk =>
    obtain ⟨xv, s2, rfl, hv, hon2⟩ := rs_pop9 hon
    obtain ⟨h1, h⟩ := rs_andE h
    obtain ⟨h2, h⟩ := rs_andE h
    have h2 := rs_leE h2
    have ex := rs_den_0 (rs_eqE h1) hv
    subst ex
    obtain ⟨m1, m2, m3, hp', m4, m5, m6⟩ := rs_mkE h
    obtain ⟨hP, hD, hS, hnn⟩ := rs_w_all hon.2.1
    have hpos := rs_i_pos (a := v.2.1) (by omega)
    refine va_newq hx hb hown (hts _ (rk_tat_ok k1)) (hN.2 _ n1) hK hP hD hS hA (N' := v.2.1) (by
      intro h
      rw [Int32.lt_iff_toInt_lt] at h
      have : (0 : Int32).toInt = 0 := rfl
      omega) (rs_cl (by omega)) (by omega) (by omega) (by omega) hdg (fun q cA H1 hK1 hP1 hD1 hS1 => ?_)
    have hcA : cA = cB := by
      obtain ⟨_, _, _, _, _, e1⟩ := (hK1.2 F.1.1.length (cA, .object (rs_an b)) (by simp)).2
      obtain ⟨_, _, _, _, _, e2⟩ := (hK.2 b _ n2).2
      exact Option.some.inj (e1.symm.trans e2)
    subst hcA
    have hrel : rs_rel F.1.1 (rs_dn F ad w.2.1) (Nat.add 16 b, v.2.1, .leaf (5, 0, 0)) (.inl (cA, v.2.1, .inr (.inr (.inr (.inr (fun _ => none)))))) := by
      have e16 : Nat.add 16 b = 16 + b := rfl
      refine ⟨fun h9 => absurd h9 (by dsimp only; omega), fun h9 => absurd h9 (by dsimp only; omega), fun _ _ => ⟨cA, rs_an b, fun _ => none, rfl, ?_, h2, fun k hk9 => rfl⟩⟩
      dsimp only
      rw [show Nat.add 16 b - 16 = b by omega]
      exact n2
    exact rs_goto9 hk m4 (rs_more9 hon hon2.2.2.2.2 hrel m3 m5 m6 hP1 hD1 hS1 _ _)
theorem rs_lenE (l : List rs_V) : rs_len l = l.length := by
  induction l with
  | nil => rfl
  | cons v l ih => exact congrArg Nat.succ ih
theorem rs_catE {dn : rs_V → Value → Prop} (hcat : ∀ v x, dn v x → x.category = 1) : ∀ (sk : List rs_V) (st : List Value), rs_stk dn sk st → (st.map fun v => v.category).sum = sk.length
  | [], [], _ => rfl
  | v :: sk, x :: st, h => by
    simp only [List.map_cons, List.sum_cons, List.length_cons]
    rw [rs_catE hcat sk st h.2, hcat v x h.1]
    omega
  | [], _ :: _, h => absurd h id
  | _ :: _, [], h => absurd h id
theorem rs_o_oini : rs_Snd MT rs_h_oini (fun _ a _ _ _ => (.invokespecial a, 3)) (fun M _ _ _ a _ _ l' => (rk_tat (.methodLink M.1.cls a Lib.objectInit) (rs_nth l' 0 0) && rk_tat (.instanceMethod Lib.objectInit) (rs_nth l' 0 1)) && (rk_tat (.code Lib.objectInit ⟨#[0xb1]⟩ 1 none) (rs_nth l' 0 2) && (Nat.ble 1 M.2.2.2.2.1 && Nat.ble 20 M.2.2.2.2.2))) := by
  intro p l e R s m args below meth c Q F M cap ft cx pc a b c' l' kt kc kr sk lo en w hdg hck h hk hc hr ad L f H locs ls st hon
  obtain ⟨hx, hb, ⟨hml, hnL⟩, hown, hts, hK, hA, hN, hroom, hnm, htys, hfl⟩ := cx
  obtain ⟨k1, k2⟩ := rs_tru hck
  obtain ⟨k1, k3⟩ := rs_tru k1
  obtain ⟨k2, k4⟩ := rs_tru k2
  obtain ⟨k4, k5⟩ := rs_tru k4
  have k4 := rs_leE k4
  have k5 := rs_leE k5
  unfold rs_h_oini at h
  cases sk with
  | nil => cases h
  | cons v sk =>
    obtain ⟨xv, s2, rfl, hv, hon2⟩ := rs_pop9 hon
    obtain ⟨h1, h⟩ := rs_andE h
    obtain ⟨h2, h⟩ := rs_andE h
    have h2 := rs_leE h2
    rw [rs_lenE] at h2
    obtain ⟨-, rfl⟩ := rs_den_R (rs_eqE h1) hv
    have hcs := rs_catE (fun _ _ => rs_den_cat) _ _ hon2.2.2.2.2
    refine W.objInit hx hb hown (hts _ (rk_tat_ok k1)) (hts _ (rk_tat_ok k3)) (hts _ (rk_tat_ok k2)) (g := F0 m pc ls (.ref (ad v.2.1) :: s2)) rfl (by show ls.size = _; rw [hml, ← hnL]; exact hon.2.2.2.1.1) rfl hdg (by omega) (by
      show 2 * 0 + (s2.map fun v => v.category).sum + 12 ≤ _
      omega) ?_
    exact rs_goto9 hk h hon2
theorem rs_o_max : rs_Snd MT (rs_mm true) (fun _ a _ _ _ => (.invokestatic a, 3)) (fun M cap _ _ a _ _ l' => (rk_tat (.methodLink M.1.cls a Lib.Math.max.name) (rs_nth l' 0 0) && rk_tat (.static Lib.Math.max.name) (rs_nth l' 0 1)) && ((rk_tat (.initialized "java/lang/Math") (rs_nth l' 0 2) && rk_tat (.code Lib.Math.max.name Lib.Math.max.code 2 (some .int)) (rs_nth l' 0 3)) && ((Nat.ble 1 M.2.2.2.2.1 && Nat.ble 21 M.2.2.2.2.2) && (Nat.ble (rs_nth l' 0 4) cap.1 && Nat.ble (rs_nth l' 0 5) cap.2)))) := by
  intro p l e R s m args below meth c Q F M cap ft cx pc a b c' l' kt kc kr sk lo en w hdg hck h hk hc hr ad L f H locs ls st hon
  obtain ⟨hx, hb, ⟨hml, hnL⟩, hown, hts, hK, hA, hN, hroom, hnm, htys, hfl⟩ := cx
  obtain ⟨k1, k2⟩ := rs_tru hck
  obtain ⟨k1, k3⟩ := rs_tru k1
  obtain ⟨k2, k4⟩ := rs_tru k2
  obtain ⟨k2, k6⟩ := rs_tru k2
  obtain ⟨k4, k7⟩ := rs_tru k4
  obtain ⟨k4, k5⟩ := rs_tru k4
  obtain ⟨k7, k8⟩ := rs_tru k7
  have k4 := rs_leE k4
  have k5 := rs_leE k5
  have k7 := rs_leE k7
  have k8 := rs_leE k8
  unfold rs_mm at h
  cases sk with
  | nil => cases h
  | cons y sk =>
    obtain ⟨yv, s1, rfl, hy, hon1⟩ := rs_pop9 hon
    cases sk with
    | nil => cases h
    | cons x sk =>
      obtain ⟨xv, s2, rfl, hxx, hon2⟩ := rs_pop9 hon1
      obtain ⟨h1, h⟩ := rs_andE h
      obtain ⟨h2, h⟩ := rs_andE h
      obtain ⟨h3, h⟩ := rs_andE h
      obtain ⟨h5, h⟩ := rs_andE h
      obtain ⟨h6, h⟩ := rs_andE h
      have h3 := rs_leE h3
      have h5 := rs_leE h5
      have h6 := rs_leE h6
      rw [rs_lenE] at h3
      have ey := rs_den_0 (rs_eqE h1) hy
      have ex := rs_den_0 (rs_eqE h2) hxx
      have hcs := rs_catE (fun _ _ => rs_den_cat) _ _ hon2.2.2.2.2
      have hlt : ∀ a b : Nat, rs_i a < rs_i b ↔ rs_bi a < rs_bi b := by
        intro a b
        rw [Int32.lt_iff_toInt_lt, rs_b_toInt, rs_b_toInt, rs_b_i, rs_b_i]
        omega
      rw [ey, ex]
      refine va_mmax hx hb (by rw [hml, ← hnL]; exact hon.2.2.2.1.1.symm) hown (hts _ (rk_tat_ok k1)) (hts _ (rk_tat_ok k3)) (hts _ (rk_tat_ok k2)) (hts _ (rk_tat_ok k6)) (by omega) (by omega) (by omega) (by omega) hdg ?_
      generalize h4 : Nat.ble (rs_bi y.2.1) (rs_bi x.2.1) = bb at h
      cases bb
      · have h4 := rs_nle h4
        rw [if_pos ((hlt _ _).mpr h4), ← ey]
        exact rs_goto9 hk h (rs_push9 hon2 hy)
      · have h4 := rs_leE h4
        rw [if_neg (fun h9 => by rw [hlt] at h9; omega), ← ex]
        exact rs_goto9 hk h (rs_push9 hon2 hxx)
theorem rs_o_min : rs_Snd MT (rs_mm false) (fun _ a _ _ _ => (.invokestatic a, 3)) (fun M cap _ _ a _ _ l' => (rk_tat (.methodLink M.1.cls a Lib.Math.min.name) (rs_nth l' 0 0) && rk_tat (.static Lib.Math.min.name) (rs_nth l' 0 1)) && ((rk_tat (.initialized "java/lang/Math") (rs_nth l' 0 2) && rk_tat (.code Lib.Math.min.name Lib.Math.min.code 2 (some .int)) (rs_nth l' 0 3)) && ((Nat.ble 1 M.2.2.2.2.1 && Nat.ble 21 M.2.2.2.2.2) && (Nat.ble (rs_nth l' 0 4) cap.1 && Nat.ble (rs_nth l' 0 5) cap.2)))) := by
  intro p l e R s m args below meth c Q F M cap ft cx pc a b c' l' kt kc kr sk lo en w hdg hck h hk hc hr ad L f H locs ls st hon
  obtain ⟨hx, hb, ⟨hml, hnL⟩, hown, hts, hK, hA, hN, hroom, hnm, htys, hfl⟩ := cx
  obtain ⟨k1, k2⟩ := rs_tru hck
  obtain ⟨k1, k3⟩ := rs_tru k1
  obtain ⟨k2, k4⟩ := rs_tru k2
  obtain ⟨k2, k6⟩ := rs_tru k2
  obtain ⟨k4, k7⟩ := rs_tru k4
  obtain ⟨k4, k5⟩ := rs_tru k4
  obtain ⟨k7, k8⟩ := rs_tru k7
  have k4 := rs_leE k4
  have k5 := rs_leE k5
  have k7 := rs_leE k7
  have k8 := rs_leE k8
  unfold rs_mm at h
  cases sk with
  | nil => cases h
  | cons y sk =>
    obtain ⟨yv, s1, rfl, hy, hon1⟩ := rs_pop9 hon
    cases sk with
    | nil => cases h
    | cons x sk =>
      obtain ⟨xv, s2, rfl, hxx, hon2⟩ := rs_pop9 hon1
      obtain ⟨h1, h⟩ := rs_andE h
      obtain ⟨h2, h⟩ := rs_andE h
      obtain ⟨h3, h⟩ := rs_andE h
      obtain ⟨h5, h⟩ := rs_andE h
      obtain ⟨h6, h⟩ := rs_andE h
      have h3 := rs_leE h3
      have h5 := rs_leE h5
      have h6 := rs_leE h6
      rw [rs_lenE] at h3
      have ey := rs_den_0 (rs_eqE h1) hy
      have ex := rs_den_0 (rs_eqE h2) hxx
      have hcs := rs_catE (fun _ _ => rs_den_cat) _ _ hon2.2.2.2.2
      have hlt : ∀ a b : Nat, rs_i a < rs_i b ↔ rs_bi a < rs_bi b := by
        intro a b
        rw [Int32.lt_iff_toInt_lt, rs_b_toInt, rs_b_toInt, rs_b_i, rs_b_i]
        omega
      rw [ey, ex]
      refine va_mmin hx hb (by rw [hml, ← hnL]; exact hon.2.2.2.1.1.symm) hown (hts _ (rk_tat_ok k1)) (hts _ (rk_tat_ok k3)) (hts _ (rk_tat_ok k2)) (hts _ (rk_tat_ok k6)) (by omega) (by omega) (by omega) (by omega) hdg ?_
      generalize h4 : Nat.ble (rs_bi y.2.1) (rs_bi x.2.1) = bb at h
      cases bb
      · have h4 := rs_nle h4
        rw [if_neg (fun h9 => by rw [hlt] at h9; omega), ← ex]
        exact rs_goto9 hk h (rs_push9 hon2 hxx)
      · have h4 := rs_leE h4
        by_cases h9 : rs_i y.2.1 < rs_i x.2.1
        · rw [if_pos h9, ← ey]
          exact rs_goto9 hk h (rs_push9 hon2 hy)
        · rw [if_neg h9, show rs_i x.2.1 = rs_i y.2.1 from rs_b_inj (by
            rw [hlt] at h9
            rw [rs_b_i, rs_b_i]
            omega), ← ey]
          exact rs_goto9 hk h (rs_push9 hon2 hy)
theorem rs_o_acp : rs_Snd MT rs_h_acp (fun _ a _ _ _ => (.invokestatic a, 3)) (fun M _ _ _ a _ _ l' => (rk_tat (.methodLink M.1.cls a arraycopyName) (rs_nth l' 0 0) && rk_tat (.native arraycopyName) (rs_nth l' 0 1)) && ((rk_tat (.static arraycopyName) (rs_nth l' 0 2) && rk_tat (.initialized "java/lang/System") (rs_nth l' 0 3)) && (Nat.ble 1 M.2.2.2.2.1 && Nat.ble (8 + (nativeFrameWords "java/lang/System" "arraycopy" 5 + 11)) M.2.2.2.2.2))) := by
  intro p l e R s m args below meth c Q F M cap ft cx pc a b c' l' kt kc kr sk lo en w hdg hck h hk hc hr ad L f H locs ls st hon
  obtain ⟨hx, hb, ⟨hml, hnL⟩, hown, hts, hK, hA, hN, hroom, hnm, htys, hfl⟩ := cx
  obtain ⟨k1, k2⟩ := rs_tru hck
  obtain ⟨k1, k3⟩ := rs_tru k1
  obtain ⟨k2, k4⟩ := rs_tru k2
  obtain ⟨k2, k6⟩ := rs_tru k2
  obtain ⟨k4, k5⟩ := rs_tru k4
  have k4 := rs_leE k4
  have k5 := rs_leE k5
  unfold rs_h_acp at h
  rcases sk with _ | ⟨n, _ | ⟨dp, _ | ⟨d, _ | ⟨sp, _ | ⟨s0, sk⟩⟩⟩⟩⟩
  · cases h
  · cases h
  · cases h
  · cases h
  · cases h
  · obtain ⟨nv, s1, rfl, hn, hon1⟩ := rs_pop9 hon
    obtain ⟨dpv, s2, rfl, hdp, hon2⟩ := rs_pop9 hon1
    obtain ⟨dv, s3, rfl, hd, hon3⟩ := rs_pop9 hon2
    obtain ⟨spv, s4, rfl, hsp, hon4⟩ := rs_pop9 hon3
    obtain ⟨sv, s5, rfl, hs, hon5⟩ := rs_pop9 hon4
    obtain ⟨h1, h⟩ := rs_andE h
    obtain ⟨h2, h⟩ := rs_andE h
    obtain ⟨h3, h⟩ := rs_andE h
    obtain ⟨h4, h⟩ := rs_andE h
    obtain ⟨h5, h⟩ := rs_andE h
    have h2 : dp.1 + dp.2.1 + (sp.1 + sp.2.1) = 0 := rs_eqE h2
    have h5 := rs_leE h5
    rw [rs_lenE] at h5
    rcases hEa : rt_g w.1 s0.2.1 with ⟨ha, na, fa⟩
    rcases hEb : rt_g w.1 d.2.1 with ⟨hbb, nb, fb⟩
    rw [hEa, hEb] at h
    obtain ⟨h6, h⟩ := rs_andE h
    obtain ⟨h7, h⟩ := rs_andE h
    obtain ⟨h8, h⟩ := rs_andE h
    obtain ⟨h9, h⟩ := rs_andE h
    have h6 : ha = 16 := rs_eqE h6
    have h7 : hbb = 16 := rs_eqE h7
    have h8 : na = n.2.1 := rs_eqE h8
    have h9 : nb = n.2.1 := rs_eqE h9
    have en_ := rs_den_0 (rs_eqE h1) hn
    have edp := rs_den_0 (by omega) hdp
    have esp := rs_den_0 (by omega) hsp
    rw [show dp.2.1 = 0 by omega] at edp
    rw [show sp.2.1 = 0 by omega] at esp
    obtain ⟨hdi, rfl⟩ := rs_den_R (rs_eqE h3) hd
    obtain ⟨hsi, rfl⟩ := rs_den_R (rs_eqE h4) hs
    have hcs := rs_catE (fun _ _ => rs_den_cat) _ _ hon5.2.2.2.2
    obtain ⟨hP, hD, hS, ⟨ka, hka⟩, hrela⟩ := rs_w_of hon.2.1 hsi (by rw [hEa]; dsimp only; omega)
    obtain ⟨-, -, -, ⟨kb, hkb⟩, hrelb⟩ := rs_w_of hon.2.1 hdi (by rw [hEb]; dsimp only; omega)
    rw [hEa] at hrela
    rw [hEb] at hrelb
    obtain ⟨cA, g, e1, e2, e3, e4⟩ := hrela.2.1 h6
    obtain ⟨cB, gb, b1, b2, b3, b4⟩ := hrelb.2.1 h7
    have hkb' := hkb
    rw [b1] at hkb'
    rw [e1] at hka
    dsimp only at e2 e3 e4 b2 b3 b4 hka hkb'
    subst en_
    subst edp
    subst esp
    have hpos := rs_i_pos (a := n.2.1) (by omega)
    have hc0 : (rs_i 0).toNatClampNeg = 0 := rs_cl (by decide)
    have hcn : (rs_i n.2.1).toNatClampNeg = n.2.1 := rs_cl (by omega)
    have h1024 : (2 : Nat) ^ 10 = 1024 := rfl
    have hnn := (rs_w_all hon.2.1).2.2.2
    obtain ⟨hp', d1, d2, d3⟩ := rt_sE 10 d.2.1 w.1 _ (by omega) h
    refine va_copyi hx hb (by rw [hml, ← hnL]; exact hon.2.2.2.1.1.symm) hown (hts _ (rk_tat_ok k1)) (hts _ (rk_tat_ok k3)) (hts _ (rk_tat_ok k2)) (hts _ (rk_tat_ok k6)) hK hP hD hS ka kb 0 0 hka hkb' e2 b2 rfl (by decide) (by decide) (by
      intro h0
      rw [Int32.lt_iff_toInt_lt] at h0
      have : (0 : Int32).toInt = 0 := rfl
      omega) (by rw [hc0, hcn]; omega) (by rw [hc0, hcn]; omega) (fun i hi => rfl) (by omega) (by omega) hdg (fun H1 locs1 hP1 hD1 hS9 => ?_)
    rw [hc0, hcn] at hP1 hD1
    have hrel' : rs_rel F.1.1 (rs_dn F ad w.2.1) (16, nb, fa) (.inl (cB, nb, .inl (va_cpy g gb 0 0 n.2.1))) := by
      refine ⟨fun h9 => absurd h9 (by dsimp only; omega), fun _ => ⟨cB, va_cpy g gb 0 0 n.2.1, rfl, b2, b3, fun j hj => ?_⟩, fun h9 => absurd h9 (by dsimp only; omega)⟩
      dsimp only at hj ⊢
      rw [pk_cpy_in (Nat.zero_le j) (by omega), Nat.zero_add, Nat.sub_zero]
      exact e4 j (by omega)
    exact rs_goto9 hk d1 (rs_up9 hon hon5.2.2.2.2 hdi (by rw [hEb]; dsimp only; omega) hrel' d2 d3 hkb hP1 hD1 hS9)
theorem rs_o_iret : rs_Snd MT rs_h_ireti (fun _ _ _ _ _ => (.ireturn, 1)) (fun M cap _ _ _ _ _ l' => decide (M.2.2.2.1 = some .int) && rs_capc cap l') := by
  intro p l e R s m args below meth c Q F M cap ft cx pc a b c' l' kt kc kr sk lo en w hdg hck h hk hc hr ad L f H locs ls st hon
  obtain ⟨hx, hb, ⟨hml, hnL⟩, hown, hts, hK, hA, hN, hroom, hnm, htys, hfl⟩ := cx
  obtain ⟨hck, hcp⟩ := rs_tru hck
  obtain ⟨hcp1, hcp2⟩ := rs_tru hcp
  have hcp1 := rs_leE hcp1
  have hcp2 := rs_leE hcp2
  unfold rs_h_ireti at h
  obtain ⟨hcq1, h⟩ := rs_andE h
  obtain ⟨hcq2, h⟩ := rs_andE h
  have hcq1 := rs_leE hcq1
  have hcq2 := rs_leE hcq2
  rcases sk with _ | ⟨v, _ | ⟨u, sk⟩⟩
  · cases h
  · obtain ⟨xv, s2, rfl, hv, hon2⟩ := rs_pop9 hon
    obtain ⟨v', h, hv'⟩ := rs_resE h hon.1 hv
    obtain ⟨h1, h⟩ := rs_andE h
    exact (hr pc v' lo en w h (by omega) (by omega)).2.1 hdg (of_decide_eq_true hck) (rs_leE h1) ad L f H locs ls _ (rs_push9 hon2 hv')
  · cases h
theorem rs_o_zret : rs_Snd MT rs_h_iretz (fun _ _ _ _ _ => (.ireturn, 1)) (fun M cap _ _ _ _ _ l' => decide (M.2.2.2.1 = some .boolean) && rs_capc cap l') := by
  intro p l e R s m args below meth c Q F M cap ft cx pc a b c' l' kt kc kr sk lo en w hdg hck h hk hc hr ad L f H locs ls st hon
  obtain ⟨hx, hb, ⟨hml, hnL⟩, hown, hts, hK, hA, hN, hroom, hnm, htys, hfl⟩ := cx
  obtain ⟨hck, hcp⟩ := rs_tru hck
  obtain ⟨hcp1, hcp2⟩ := rs_tru hcp
  have hcp1 := rs_leE hcp1
  have hcp2 := rs_leE hcp2
  unfold rs_h_iretz at h
  obtain ⟨hcq1, h⟩ := rs_andE h
  obtain ⟨hcq2, h⟩ := rs_andE h
  have hcq1 := rs_leE hcq1
  have hcq2 := rs_leE hcq2
  rcases sk with _ | ⟨v, _ | ⟨u, sk⟩⟩
  · cases h
  · obtain ⟨h1, h⟩ := rs_andE h
    obtain ⟨h1, h2⟩ := rs_andE h1
    exact (hr pc v lo en w h (by omega) (by omega)).2.2.1 hdg (of_decide_eq_true hck) (rs_eqE h1) (rs_leE h2) ad L f H locs ls _ hon
  · cases h
theorem rs_o_aret : rs_Snd MT rs_h_aret (fun _ _ _ _ _ => (.areturn, 1)) (fun M cap _ _ _ _ _ l' => (match M.2.2.2.1 with | some t => rs_isA t | none => false) && rs_capc cap l') := by
  intro p l e R s m args below meth c Q F M cap ft cx pc a b c' l' kt kc kr sk lo en w hdg hck h hk hc hr ad L f H locs ls st hon
  obtain ⟨hx, hb, ⟨hml, hnL⟩, hown, hts, hK, hA, hN, hroom, hnm, htys, hfl⟩ := cx
  obtain ⟨hck, hcp⟩ := rs_tru hck
  obtain ⟨hcp1, hcp2⟩ := rs_tru hcp
  have hcp1 := rs_leE hcp1
  have hcp2 := rs_leE hcp2
  unfold rs_h_aret at h
  obtain ⟨hcq1, h⟩ := rs_andE h
  obtain ⟨hcq2, h⟩ := rs_andE h
  have hcq1 := rs_leE hcq1
  have hcq2 := rs_leE hcq2
  rcases sk with _ | ⟨v, _ | ⟨u, sk⟩⟩
  · cases h
  · obtain ⟨h1, h⟩ := rs_andE h
    have h1 : v.1 = 4 ∨ v.1 = 5 := (rs_orE h1).imp rs_eqE rs_eqE
    refine (hr pc v lo en w h (by omega) (by omega)).2.2.2 hdg ?_ h1 ad L f H locs ls _ hon
    have hck : (match M.2.2.2.1 with | some t => rs_isA t | none => false) = true := hck
    split at hck
    · rename_i t ht
      refine ⟨t, ht, ?_⟩
      cases t <;> first | exact Or.inl ⟨_, rfl⟩ | exact Or.inr ⟨_, rfl⟩ | cases hck
    · cases hck
  · cases h
theorem rs_o_vret : rs_Snd MT rs_h_vret (fun _ _ _ _ _ => (.return_, 1)) (fun M cap _ _ _ _ _ l' => M.2.2.2.1.isNone && rs_capc cap l') := by
  intro p l e R s m args below meth c Q F M cap ft cx pc a b c' l' kt kc kr sk lo en w hdg hck h hk hc hr ad L f H locs ls st hon
  obtain ⟨hx, hb, ⟨hml, hnL⟩, hown, hts, hK, hA, hN, hroom, hnm, htys, hfl⟩ := cx
  obtain ⟨hck, hcp⟩ := rs_tru hck
  obtain ⟨hcp1, hcp2⟩ := rs_tru hcp
  have hcp1 := rs_leE hcp1
  have hcp2 := rs_leE hcp2
  unfold rs_h_vret at h
  obtain ⟨hcq1, h⟩ := rs_andE h
  obtain ⟨hcq2, h⟩ := rs_andE h
  have hcq1 := rs_leE hcq1
  have hcq2 := rs_leE hcq2
  rcases sk with _ | ⟨v, sk⟩
  · exact (hr pc (9, 0, 0) lo en w h (by omega) (by omega)).1 hdg (by simpa using hck) ad L f H locs ls _ hon
  · cases h
end RSS
end
section
/-! calls -/
section RSS
variable {MT : Nat → rk_Mt × Nat × Nat}
theorem rs_fr_tr {F : rs_Fx} {X : List (ClassId × FieldType) × va_G × (Nat → Prop) × Heap × (Nat → Int32) × Nat × Nat} {hp hp' : rs_H} {nn nn' : Nat} {ad ad' : Nat → Nat} {L L' : List Nat} {f f' : Nat → va_E} (h1 : rs_fr F hp nn ad L f) (h2 : rs_fr (X, hp, nn, ad, L, f) hp' nn' ad' L' f') : rs_fr F hp' nn' ad' L' f' := by
  obtain ⟨Y, hp0, nn0, ad0, L0, f0⟩ := F
  obtain ⟨a1, a2, a3, a4, a5, a6⟩ := h1
  obtain ⟨b1, b2, b3, b4, b5, b6⟩ := h2
  refine ⟨by omega, fun i hi => (b2 i (by omega)).trans (a2 i hi), fun i hi ht => a3 i hi (b3 i (by omega) ht), fun a ha => b4 a (a4 a ha), fun i h1 h2 hm => ?_, fun a ha hn => ?_⟩
  · by_cases hi : i < nn
    · rw [b2 i hi] at hm
      exact a5 i h1 hi hm
    · exact b5 i (by omega) h2 (a4 _ hm)
  · rw [b6 a (a4 a ha) (fun i hi ht e => ?_), a6 a ha hn]
    by_cases h0 : i < nn0
    · exact hn i h0 (a3 i h0 ht) (e.trans (a2 i h0))
    · exact a5 i (by omega) hi (e ▸ ha)
theorem rs_tkE : ∀ (n : Nat) (sk acc : List rs_V) (k : List rs_V → List rs_V → Bool), rs_tk n sk acc k = true → ∃ pre rest, sk = pre ++ rest ∧ pre.length = n ∧ k (pre.reverse ++ acc) rest = true
  | 0, sk, acc, k, h => ⟨[], sk, rfl, rfl, h⟩
  | n + 1, [], acc, k, h => by cases h
  | n + 1, v :: sk, acc, k, h => by
    obtain ⟨pre, rest, e1, e2, e3⟩ := rs_tkE n sk (v :: acc) k h
    exact ⟨v :: pre, rest, by rw [e1]; rfl, by rw [List.length_cons, e2], by rw [List.reverse_cons, List.append_assoc]; exact e3⟩
theorem rs_stk_app {dn : rs_V → Value → Prop} : ∀ (pre rest : List rs_V) (st : List Value), rs_stk dn (pre ++ rest) st → ∃ vp vr, st = vp ++ vr ∧ rs_stk dn pre vp ∧ rs_stk dn rest vr
  | [], rest, st, h => ⟨[], st, rfl, trivial, h⟩
  | v :: pre, rest, st, h => by
    obtain ⟨x, st', rfl, h1, h2⟩ := rs_stk_cons h
    obtain ⟨vp, vr, rfl, h3, h4⟩ := rs_stk_app pre rest st' h2
    exact ⟨x :: vp, vr, rfl, ⟨h1, h3⟩, h4⟩
theorem rs_stk_snoc {dn : rs_V → Value → Prop} {v : rs_V} {x : Value} (hv : dn v x) : ∀ (sk : List rs_V) (st : List Value), rs_stk dn sk st → rs_stk dn (sk ++ [v]) (st ++ [x])
  | [], [], _ => ⟨hv, trivial⟩
  | u :: sk, y :: st, h => ⟨h.1, rs_stk_snoc hv sk st h.2⟩
  | [], _ :: _, h => absurd h id
  | _ :: _, [], h => absurd h id
theorem rs_stk_rev {dn : rs_V → Value → Prop} : ∀ (sk : List rs_V) (st : List Value), rs_stk dn sk st → rs_stk dn sk.reverse st.reverse
  | [], [], _ => trivial
  | u :: sk, y :: st, h => by
    rw [List.reverse_cons, List.reverse_cons]
    exact rs_stk_snoc h.1 _ _ (rs_stk_rev sk st h.2)
  | [], _ :: _, h => absurd h id
  | _ :: _, [], h => absurd h id
theorem rs_stk_len {dn : rs_V → Value → Prop} : ∀ (sk : List rs_V) (st : List Value), rs_stk dn sk st → st.length = sk.length
  | [], [], _ => rfl
  | u :: sk, y :: st, h => by
    rw [List.length_cons, List.length_cons, rs_stk_len sk st h.2]
  | [], _ :: _, h => absurd h id
  | _ :: _, [], h => absurd h id
theorem rs_callW {p : Program} {l : Launch} {e : Env} {R : Room} {s : State} {m : MethodId} {args : Array Value} {below : List Frame} {meth : Method} {c : Code} {Q : State → Prop} {H0 H : Heap} {locs : List Loc} {pc cells slots mc ms : Nat} {ls : Array Slot} {rest st0 : List Value} {a : Array Value} {A0 A1 : Nat → Prop} {free : Addr → Prop} {QQ : Array Value → State → Outcome → State → Prop} (hr : va_Run p l e R s m args below meth c H locs cells slots mc ms (F0 m pc ls st0) rest (QQ a) free) (hQF : ∀ st oc t, QQ a st oc t → va_F A1 st t) (hS : va_S A0 H0 H locs) (hA : ∀ q, q < H.size → A1 q → A0 q) (hf : ∀ q, free q → A0 q)
    (kk : ∀ (v : Option Value) (st₀ t : State) (H1 : Heap) (locs1 : List Loc), t.heap = H1 → s.vm.Alike t.vm → st₀.heap = H → QQ a st₀ (.returned v) t → va_S A0 H0 H1 locs1 → W p l e R s m args below meth c H1 locs1 (cells + mc) (slots + ms) Q (F0 m (pc + 3) ls (v.toList ++ rest))) : W p l e R s m args below meth c H locs cells slots Q (F0 m pc ls st0) := by
  intro T hT X
  obtain ⟨v, st₀, t, T', L, h0, X', hL, e1, e2, hq, st⟩ := hr T hT X
  obtain ⟨hz, hk⟩ := hQF _ _ _ hq
  rw [h0] at hz hk
  obtain ⟨t2, a1, b1⟩ := kk v st₀ t T'.heap (locs ++ L) e1.symm (by rw [← e2]; exact X'.warmed.alike) h0 hq
    ⟨Nat.le_trans hS.1 (by rw [e1]; exact hz), fun q h1 h2 => by rw [e1, hk q (Nat.lt_of_lt_of_le h1 hS.1) (fun z => h2 (hA q (Nat.lt_of_lt_of_le h1 hS.1) z))]; exact hS.2.1 q h1 h2, fun q hq => by
      rcases List.mem_append.mp hq with h | h
      · exact hS.2.2 q h
      · exact hf _ (hL q h)⟩ T' rfl X'
  exact ⟨t2, st t2 a1, b1⟩
/-- the words of a call (0 static, 1 virtual, 2 a constructor) -/
noncomputable def rs_lk (md : Nat) (own : String) (idx : Nat) (M : rk_Mt) (n : Nat) (l : List Nat) : Bool :=
  ((rk_tat (.initialized M.1.cls) (rs_nth l 0 6) && (!decide (M.1.cls = "java/lang/invoke/MethodHandle") && !decide (M.1.cls = "java/lang/invoke/VarHandle"))) &&
   ((if Nat.beq (rs_nth l 0 8) 1 then decide (rk_nm[rs_nth l 0 7]? = some (own, idx, M.1, "SpaceLinks")) else rk_tat (.methodLink own idx M.1) (rs_nth l 0 7)) && rk_tat (.code M.1 M.2.1 M.2.2.1 M.2.2.2.1) (rs_nth l 0 11))) &&
  (match md with
   | 0 => rk_tat (.static M.1) (rs_nth l 0 9) && decide ((parseMethodDescriptor M.1.desc).map (fun d => d.parameters.length) = some n)
   | 1 => (rk_tat (.instanceMethod M.1) (rs_nth l 0 9) && rk_tat (.selects M.1.cls M.1 M.1) (rs_nth l 0 10)) && ((decide ((vwCl[rs_nth l 0 5]?).map (fun q => q.1) = some M.1.cls) && Nat.blt (rs_nth l 0 5) 16) && (Nat.ble 1 n && decide ((parseMethodDescriptor M.1.desc).map (fun d => d.parameters.length) = some (n - 1))))
   | _ => (rk_tat (.instanceMethod M.1) (rs_nth l 0 9) && decide (M.1.name = "<init>")) && (M.2.2.2.1.isNone && (Nat.ble 1 n && decide ((parseMethodDescriptor M.1.desc).map (fun d => d.parameters.length) = some (n - 1)))))
theorem rs_lkE {md : Nat} {own : String} {idx : Nat} {M : rk_Mt} {n : Nat} {l : List Nat} (h : rs_lk md own idx M n l = true) {s : State} {args : Array Value} (hts : ∀ w ∈ rk_tbl, w.before args s = true) (hN : rs_NU s) : (Jvm.Cond.initialized M.1.cls).before args s = true ∧ (M.1.cls ≠ "java/lang/invoke/MethodHandle" ∧ M.1.cls ≠ "java/lang/invoke/VarHandle") ∧ ((Jvm.Cond.methodLink own idx M.1).before args s = true ∨ ∃ host : String, va_Nw (.methodLinkNest own idx M.1 host) s) ∧ Jvm.Cond.code M.1 M.2.1 M.2.2.1 M.2.2.2.1 ∈ rk_tbl ∧
    (md = 0 → (Jvm.Cond.static M.1).before args s = true ∧ (parseMethodDescriptor M.1.desc).map (fun d => d.parameters.length) = some n) ∧
    (md = 1 → (Jvm.Cond.instanceMethod M.1).before args s = true ∧ (Jvm.Cond.selects M.1.cls M.1 M.1).before args s = true ∧ (∃ q, vwCl[rs_nth l 0 5]? = some q ∧ q.1 = M.1.cls) ∧ rs_nth l 0 5 < 16 ∧ 1 ≤ n ∧ (parseMethodDescriptor M.1.desc).map (fun d => d.parameters.length) = some (n - 1)) ∧
    (md = 2 → (Jvm.Cond.instanceMethod M.1).before args s = true ∧ M.1.name = "<init>" ∧ M.2.2.2.1 = none ∧ 1 ≤ n ∧ (parseMethodDescriptor M.1.desc).map (fun d => d.parameters.length) = some (n - 1)) := by
  have use : ∀ {w : Jvm.Cond} {i : Nat}, rk_tat w i = true → w.before args s = true := fun h => hts _ (rk_tat_ok h)
  unfold rs_lk at h
  obtain ⟨h, h5⟩ := rs_tru h
  obtain ⟨h, h3⟩ := rs_tru h
  obtain ⟨h1, h2⟩ := rs_tru h
  obtain ⟨h2a, h2b⟩ := rs_tru h2
  obtain ⟨h3, h4⟩ := rs_tru h3
  refine ⟨use h1, ⟨by simpa using h2a, by simpa using h2b⟩, ?_, rk_tat_ok h4, ?_, ?_, ?_⟩
  · split at h3
    · exact Or.inr ⟨"SpaceLinks", hN.1.2 _ (List.mem_of_getElem? (of_decide_eq_true h3))⟩
    · exact Or.inl (use h3)
  · intro hm
    subst hm
    obtain ⟨a1, a2⟩ := rs_tru h5
    exact ⟨use a1, of_decide_eq_true a2⟩
  · intro hm
    subst hm
    obtain ⟨a1, a2⟩ := rs_tru h5
    obtain ⟨a1, a3⟩ := rs_tru a1
    obtain ⟨a2, a4⟩ := rs_tru a2
    obtain ⟨a2, a5⟩ := rs_tru a2
    obtain ⟨a4, a6⟩ := rs_tru a4
    have a2 := of_decide_eq_true a2
    rw [Nat.blt_eq] at a5
    refine ⟨use a1, use a3, ?_, a5, rs_leE a4, of_decide_eq_true a6⟩
    cases hq : vwCl[rs_nth l 0 5]? with
    | none => rw [hq] at a2; cases a2
    | some q => rw [hq] at a2; exact ⟨q, rfl, by simpa using a2⟩
  · intro hm
    subst hm
    obtain ⟨a1, a2⟩ := rs_tru h5
    obtain ⟨a1, a3⟩ := rs_tru a1
    obtain ⟨a2, a4⟩ := rs_tru a2
    obtain ⟨a4, a6⟩ := rs_tru a4
    exact ⟨use a1, of_decide_eq_true a3, by simpa using a2, rs_leE a4, of_decide_eq_true a6⟩
noncomputable def rs_cck (MT : Nat → rk_Mt × Nat × Nat) (md : Nat) : rs_Ck := fun M cap _ _ a b c' l' => ((rs_lk md M.1.cls a (MT b).1 c' l' && Nat.ble c' (MT b).1.2.2.1) && (Nat.ble ((MT b).1.2.2.2.2.1 + 1) M.2.2.2.2.1 && Nat.ble (8 + ((MT b).1.2.2.1 + 11) + (MT b).1.2.2.2.2.2) M.2.2.2.2.2)) && ((Nat.beq (rs_nth l' 0 1) (MT b).2.1 && Nat.beq (rs_nth l' 0 2) (MT b).2.2) && ((Nat.ble (rs_nth l' 0 3) cap.1 && Nat.ble (rs_nth l' 0 4) cap.2) && (Nat.beq (rs_nth l' 0 0) 0 == (MT b).1.2.2.2.1.isNone)))
def rs_mdI (md a : Nat) : Instr := match md with
  | 0 => .invokestatic a
  | 1 => .invokevirtual a
  | _ => .invokespecial a
set_option maxHeartbeats 1000000 in
theorem rs_callE (md : Nat) (hmd : md ≤ 2) : rs_Snd MT (rs_call md) (fun _ a _ _ _ => (rs_mdI md a, 3)) (rs_cck MT md) := by
  intro p l e R s m args below meth c Q F M cap ft cx pc a b c' l' kt kc kr sk lo en w hdg hck h hk hc hr ad L f H locs ls st hon
  obtain ⟨hx, hb, ⟨hml, hnL⟩, hown, hts, hK, hA, hN, hroom, hnm, htys, hfl⟩ := cx
  obtain ⟨k1, k2⟩ := rs_tru hck
  obtain ⟨k1, k3⟩ := rs_tru k1
  obtain ⟨k1, k1b⟩ := rs_tru k1
  have k1b := rs_leE k1b
  obtain ⟨k3, k4⟩ := rs_tru k3
  obtain ⟨k2, k5⟩ := rs_tru k2
  obtain ⟨k2, k6⟩ := rs_tru k2
  obtain ⟨k5, k7⟩ := rs_tru k5
  obtain ⟨k5, k8⟩ := rs_tru k5
  have k2 := rs_eqE k2
  have k6 := rs_eqE k6
  have k3 := rs_leE k3
  have k4 := rs_leE k4
  have k5 := rs_leE k5
  have k8 := rs_leE k8
  have k7 : Nat.beq (rs_nth l' 0 0) 0 = (MT b).1.2.2.2.1.isNone := by simpa using k7
  obtain ⟨q1, q2, q3, q4, q5, q6, q7⟩ := rs_lkE k1 hts hN
  unfold rs_call at h
  obtain ⟨pre, rest, e1, e2, hg⟩ := rs_tkE _ _ _ _ h
  clear h
  subst e1
  rw [List.append_nil] at hg
  have h := hg
  clear hg
  obtain ⟨h1, h⟩ := rs_andE h
  obtain ⟨h2, h⟩ := rs_andE h
  have h := rs_nfE h
  have h := rs_nfE h
  obtain ⟨h3, h⟩ := rs_andE h
  obtain ⟨h4, h⟩ := rs_andE h
  have h1 := rs_leE h1
  rw [rs_lenE] at h1
  have h3 : w.2.2.1 + rs_nth l' 0 1 ≤ rs_nth l' 0 3 := rs_leE h3
  have h4 : w.2.2.2 + rs_nth l' 0 2 ≤ rs_nth l' 0 4 := rs_leE h4
  rw [k2] at h3
  rw [k6] at h4
  obtain ⟨vp, vr, rfl, hvp, hvr⟩ := rs_stk_app pre rest st hon.2.2.2.2
  have hvs := rs_stk_rev _ _ hvp
  have hlen : vp.length = c' := by rw [rs_stk_len _ _ hvp, e2]
  have hcat := rs_catE (fun _ _ => rs_den_cat) _ _ hvr
  obtain ⟨hP, hD, hS, hnn⟩ := rs_w_all hon.2.1
  have hWd : rs_Wd F.1.1 F.1.2.2.2.2.1 F.1.2.2.2.2.2.1 w.1 w.2.1 ad L f := by
    obtain ⟨⟨tys, D, A, H0, r, sb, nL⟩, Z⟩ := F
    exact ⟨hon.2.1.2.2.2.1, hon.2.1.2.2.2.2.1, hnn⟩
  have hM := hc b _ en w.1 w.2.1 _ h hon.1 (by rw [List.length_reverse]; omega) ad L f vp.reverse H.size hvs hWd
  have hF : ∀ q, va_A (va_pl L f) H.size q → F.1.2.2.1 q := by
    intro q hq
    rcases hq with ⟨k, e9, hke⟩ | hq
    · exact hD.2 k (q, e9) hke
    · exact hA q (Nat.le_trans hS.1 hq)
  have hG := rk_good (M := (MT b).1) (big := rk_tbl) (fun _ h => h) q4
  have hbl : FrameBlind (va_Pc vp.reverse (rk_Pre F.1.2.1 F.1.1 rs_NU L f H.size)) := fun a U g mk q => by
    obtain ⟨q0, q1, q2, q3, q4, q5⟩ := q
    exact ⟨q0, q1, q2, va_K.moved (u := U) (U := U.calling g mk a) (Vm.Alike.refl U.vm) q3, q4, rs_NU_same (u := U) rfl q5⟩
  have hpre : ∀ U : State, U.heap = H → s.WarmedH U.vm → rk_Pre F.1.2.1 F.1.1 rs_NU L f H.size U := fun U hU hW => ⟨by rw [hU], by rw [hU]; exact hP, va_K.moved hW.alike hK, hD.weaken (fun _ _ _ _ => trivial), rs_NU_warm hW hN⟩
  have hroom2 : (MT b).1.2.2.2.2.1 + 1 ≤ R.frames ∧ 8 + ((MT b).1.2.2.1 + 11) + (MT b).1.2.2.2.2.2 ≤ R.locals := ⟨by omega, by omega⟩
  have hcs : w.2.2.1 + (MT b).2.1 ≤ R.cells ∧ w.2.2.2 + (MT b).2.2 ≤ R.slots := ⟨by omega, by omega⟩
  have hsz : ls.size = M.2.2.1 := by rw [← hnL]; exact hon.2.2.2.1.1
  have hfin : ∀ (aa : Array Value), va_Run p l e R s m args below meth c H locs w.2.2.1 w.2.2.2 (MT b).2.1 (MT b).2.2 (F0 m pc ls (vp ++ vr)) vr (rs_Q F.1.1 F.1.2.1 F.1.2.2.2.2.1 F.1.2.2.2.2.2.1 w.1 w.2.1 ad L f (va_A (va_pl L f) H.size) (MT b).1.2.2.2.1 (fun v en hp nn => @Bool.rec (fun _ => Bool) (kt (Nat.add pc 3) (v :: rest) lo en (hp, nn, Nat.add w.2.2.1 (rs_nth l' 0 1), Nat.add w.2.2.2 (rs_nth l' 0 2))) (kt (Nat.add pc 3) rest lo en (hp, nn, Nat.add w.2.2.1 (rs_nth l' 0 1), Nat.add w.2.2.2 (rs_nth l' 0 2))) (Nat.beq (rs_nth l' 0 0) 0)) aa) (va_A (va_pl L f) H.size) → W p l e R s m args below meth c H locs w.2.2.1 w.2.2.2 Q (F0 m pc ls (vp ++ vr)) := by
    intro aa hrun
    refine rs_callW hrun (fun st oc t h => h.2) hS (fun q _ h9 => hF q h9) hF ?_
    intro x st₀ t H1 locs1 ht hvm hst0 hq hS1
    obtain ⟨⟨x', v, en', hp', nn', ad', L', f', o1, o2, o3, o4, o5, o6, o7, o8, o9, o10⟩, -⟩ := hq
    cases o1
    rw [ht] at o8
    have hfr := rs_fr_tr hon.2.2.1 o7
    have o7' := o7
    have hmono : ∀ v x, rs_dn F ad w.2.1 v x → rs_dn F ad' nn' v x := fun v x h => rs_den_mono o7'.1 o7'.2.1 h
    have hw' : rs_w F hp' nn' ad' L' f' H1 locs1 := by
      obtain ⟨⟨tys, D, A, H0, r, sb, nL⟩, Z⟩ := F
      exact ⟨o8, o10.weaken (fun k q _ h9 => hF q.1 h9), hS1, o6.1, o6.2.1, o6.2.2⟩
    have hloc : rs_loc (rs_dn F ad' nn') F.1.2.2.2.2.2.2 lo ls := ⟨hon.2.2.2.1.1, hon.2.2.2.1.2.1, fun i hi => by
      obtain ⟨x, u1, u2⟩ := hon.2.2.2.1.2.2 i hi
      exact ⟨x, u1, hmono _ _ u2⟩⟩
    have hvr' := rs_stk_mono hmono _ _ hvr
    rcases rs_ifE o3 with ⟨z1, o3⟩ | ⟨z1, o3⟩
    · rw [k7] at z1
      have hx0 : x = none := o2.mpr (by simpa using z1)
      subst hx0
      have := hk _ _ _ _ _ o3 ad' L' f' H1 locs1 ls vr ⟨o4, hw', hfr, hloc, hvr'⟩
      rw [show (MT b).2.1 = rs_nth l' 0 1 from k2.symm, show (MT b).2.2 = rs_nth l' 0 2 from k6.symm]
      exact this
    · rw [k7] at z1
      cases x with
      | none =>
        have := o2.mp rfl
        rw [this] at z1
        cases z1
      | some y =>
        have := hk _ _ _ _ _ o3 ad' L' f' H1 locs1 ls (y :: vr) ⟨o4, hw', hfr, hloc, o5 y rfl, hvr'⟩
        rw [show (MT b).2.1 = rs_nth l' 0 1 from k2.symm, show (MT b).2.2 = rs_nth l' 0 2 from k6.symm]
        exact this
  have hstk : vp ++ vr = vp.reverse.reverse ++ vr := by rw [List.reverse_reverse]
  have hcat8 : (vr.map fun v => v.category).sum ≤ 8 := by omega
  have hmd3 : md = 0 ∨ md = 1 ∨ md = 2 := by omega
  rcases hmd3 with hm | hm | hm
  · subst hm
    obtain ⟨i1, hpar⟩ := q5 rfl
    have hPs : PreS s H (va_Pc vp.reverse (rk_Pre F.1.2.1 F.1.1 rs_NU L f H.size)) vp.reverse := ⟨hbl, fun U hU hW => ⟨rfl, hpre U hU hW⟩⟩
    rcases q3 with hl | ⟨host, hl⟩
    · exact hfin _ (va_runS (As := vp.reverse) (rest := vr) ⟨hx, hb, hml, hown, hts⟩ hM ⟨callB_of c' hts hG rfl rfl rfl q1 hl ⟨q2.1, q2.2, hpar⟩ hroom2, i1⟩ hPs rfl (by rw [List.length_reverse]; exact hlen) hsz hstk (lv_room hcat8) hdg hcs)
    · exact hfin _ (va_runSN (As := vp.reverse) (rest := vr) ⟨hx, hb, hml, hown, hts⟩ hM ⟨va_cnB c' hts hG rfl rfl rfl hl q1 ⟨q2.1, q2.2, hpar⟩ hroom2, i1, trivial⟩ hPs rfl (by rw [List.length_reverse]; exact hlen) hsz hstk (lv_room hcat8) hdg hcs)
  · subst hm
    obtain ⟨i1, i2, ⟨qc, hqc, hqn⟩, i4, i5, hpar⟩ := q6 rfl
    -- the receiver
    unfold rs_rcv at h2
    have h9 := h2
    · generalize hpr : pre.reverse = pr at h9 hvs
      generalize hvv : vp.reverse = vv at hvs hM hbl hstk hfin
      cases pr with
      | nil => cases h9
      | cons v0 pr =>
        obtain ⟨x0, vv', hvv', hv0, hvs'⟩ := rs_stk_cons hvs
        subst hvv'
        obtain ⟨z1, z2⟩ := rs_andE h9
        obtain ⟨hi0, rfl⟩ := rs_den_R (rs_eqE z1) hv0
        · have z3 : (rt_g w.1 v0.2.1).1 = rs_nth l' 0 5 := rs_eqE z2
          obtain ⟨-, -, -, ⟨k, hk9⟩, hrel⟩ := rs_w_of hon.2.1 hi0 (by omega)
          obtain ⟨vs, r1, -⟩ := hrel.1 (by omega)
          rw [r1, z3] at hk9
          have hrv := va_recv hK hP hqc hk9
          rw [hqn] at hrv
          have hPv : PreV s H (MT b).1.1.cls (ad v0.2.1) (va_Pc (.ref (ad v0.2.1) :: vv') (rk_Pre F.1.2.1 F.1.1 rs_NU L f H.size)) vv' := ⟨hbl, hrv, fun U hU hW => ⟨rfl, hpre U hU hW⟩⟩
          have hl9 : vv'.length = c' - 1 := by
            have : (vp.reverse).length = c' := by rw [List.length_reverse]; exact hlen
            rw [hvv, List.length_cons] at this
            omega
          have hstk2 : vp ++ vr = vv'.reverse ++ .ref (ad v0.2.1) :: vr := by
            rw [hstk, List.reverse_cons, List.append_assoc]
            rfl
          rcases q3 with hl | ⟨host, hl⟩
          · exact hfin _ (va_runV (As := vv') (rest := vr) (b := ad v0.2.1) (C := (MT b).1.1.cls) ⟨hx, hb, hml, hown, hts⟩ hM ⟨callB_of (c' - 1) hts hG rfl rfl rfl q1 hl ⟨q2.1, q2.2, hpar⟩ hroom2, i1, i2⟩ hPv rfl hl9 hsz hstk2 (lv_room hcat8) hdg hcs)
          · exact hfin _ (va_runVN (As := vv') (rest := vr) (b := ad v0.2.1) (C := (MT b).1.1.cls) ⟨hx, hb, hml, hown, hts⟩ hM ⟨va_cnB (c' - 1) hts hG rfl rfl rfl hl q1 ⟨q2.1, q2.2, hpar⟩ hroom2, i1, i2⟩ hPv rfl hl9 hsz hstk2 (lv_room hcat8) hdg hcs)
  · subst hm
    obtain ⟨i1, i2, i3, i5, hpar⟩ := q7 rfl
    unfold rs_rcv at h2
    have h9 := h2
    · generalize hpr : pre.reverse = pr at h9 hvs
      generalize hvv : vp.reverse = vv at hvs hM hbl hstk hfin
      cases pr with
      | nil => cases h9
      | cons v0 pr =>
        obtain ⟨x0, vv', hvv', hv0, hvs'⟩ := rs_stk_cons hvs
        subst hvv'
        obtain ⟨z1, -⟩ := rs_andE h9
        obtain ⟨hi0, rfl⟩ := rs_den_R (rs_eqE z1) hv0
        have hPs : PreS s H (va_Pc (.ref (ad v0.2.1) :: vv') (rk_Pre F.1.2.1 F.1.1 rs_NU L f H.size)) (.ref (ad v0.2.1) :: vv') := ⟨hbl, fun U hU hW => ⟨rfl, hpre U hU hW⟩⟩
        have hl9 : vv'.length = c' - 1 := by
          have : (vp.reverse).length = c' := by rw [List.length_reverse]; exact hlen
          rw [hvv, List.length_cons] at this
          omega
        have hstk2 : vp ++ vr = vv'.reverse ++ .ref (ad v0.2.1) :: vr := by
          rw [hstk, List.reverse_cons, List.append_assoc]
          rfl
        have hws : rk_ws (MT b).1 = Jvm.Cond.code (MT b).1.1 (MT b).1.2.1 (MT b).1.2.2.1 none :: rk_tbl := by
          unfold rk_ws
          rw [i3]
        rcases q3 with hl | ⟨host, hl⟩
        · exact hfin _ (va_runI (As := vv') (rest := vr) (b := ad v0.2.1) ⟨hx, hb, hml, hown, hts⟩ hM ⟨callB_of (c' - 1) hts hG hws rfl rfl q1 hl ⟨q2.1, q2.2, hpar⟩ hroom2, i2, i1⟩ hPs rfl hl9 hsz hstk2 (lv_room hcat8) hdg hcs)
        · exact hfin _ (va_runIN (As := vv') (rest := vr) (b := ad v0.2.1) ⟨hx, hb, hml, hown, hts⟩ hM ⟨va_cnB (c' - 1) hts hG hws rfl rfl hl q1 ⟨q2.1, q2.2, hpar⟩ hroom2, i2, i1⟩ hPs rfl hl9 hsz hstk2 (lv_room hcat8) hdg hcs)
theorem rs_o_virt : rs_Snd MT (rs_call 1) (fun _ a _ _ _ => (.invokevirtual a, 3)) (rs_cck MT 1) := rs_callE 1 (by decide)
theorem rs_o_stat : rs_Snd MT (rs_call 0) (fun _ a _ _ _ => (.invokestatic a, 3)) (rs_cck MT 0) := rs_callE 0 (by decide)
theorem rs_o_init : rs_Snd MT (rs_call 2) (fun _ a _ _ _ => (.invokespecial a, 3)) (rs_cck MT 2) := rs_callE 2 (by decide)
end RSS
end
section
/-! the run holds -/
noncomputable def rs_ds : Lean.RArray rs_Dc := (.branch 0 (.branch 0 (.branch 0 (.branch 0 (.branch 0 (.branch 0 (.leaf (fun _ _ _ _ _ => (.nop, 1))) (.leaf (fun pc a b _ _ => (.ifnull (rs_tg pc a), 3)))) (.branch 0 (.leaf (fun _ _ _ _ _ => (.iadd, 1))) (.leaf (fun _ a _ _ _ => (.invokespecial a, 3))))) (.branch 0 (.branch 0 (.leaf (fun _ a _ _ _ => (.iload_n ⟨a % 4, Nat.mod_lt _ (by decide)⟩, 1))) (.leaf (fun _ _ _ _ _ => (.arraylength, 1)))) (.branch 0 (.leaf (fun _ _ _ _ _ => (.ishr, 1))) (.leaf (fun _ _ _ _ _ => (.ireturn, 1)))))) (.branch 0 (.branch 0 (.branch 0 (.leaf (fun _ _ _ c' _ => (.ldc c', 2))) (.leaf (fun _ a _ _ _ => (.getfield a, 3)))) (.branch 0 (.leaf (fun _ _ _ _ _ => (.irem, 1))) (.leaf (fun _ a _ _ _ => (.invokevirtual a, 3))))) (.branch 0 (.branch 0 (.leaf (fun _ a _ _ _ => (.istore_n ⟨a % 4, Nat.mod_lt _ (by decide)⟩, 1))) (.leaf (fun _ _ _ _ _ => (.aastore, 1)))) (.branch 0 (.leaf (fun _ _ _ _ _ => (.dup2, 1))) (.leaf (fun _ _ _ _ _ => (.nop, 1))))))) (.branch 0 (.branch 0 (.branch 0 (.branch 0 (.leaf (fun _ a _ _ _ => (.bipush (rs_sg a), 2))) (.leaf (fun pc a b c' l' => (.tableswitch (rs_tg pc c') (a : Int) ((a : Int) + (b : Int) - 1) (l'.map (rs_tg pc)).toArray, 13 + (3 - pc % 4) + 4 * b)))) (.branch 0 (.leaf (fun _ _ _ _ _ => (.imul, 1))) (.leaf (fun _ a _ _ _ => (.invokestatic a, 3))))) (.branch 0 (.branch 0 (.leaf (fun _ a _ _ _ => (.aload_n ⟨a % 4, Nat.mod_lt _ (by decide)⟩, 1))) (.leaf (fun _ _ _ _ _ => (.iastore, 1)))) (.branch 0 (.leaf (fun _ _ _ _ _ => (.pop, 1))) (.leaf (fun _ _ _ _ _ => (.return_, 1)))))) (.branch 0 (.branch 0 (.branch 0 (.leaf (fun _ _ _ _ _ => (.aconst_null, 1))) (.leaf (fun _ a _ _ _ => (.putfield a, 3)))) (.branch 0 (.leaf (fun _ _ _ _ _ => (.ior, 1))) (.leaf (fun _ a _ _ _ => (.invokespecial a, 3))))) (.branch 0 (.branch 0 (.leaf (fun _ a _ _ _ => (.astore_n ⟨a % 4, Nat.mod_lt _ (by decide)⟩, 1))) (.leaf (fun _ _ _ _ _ => (.newarray .int, 2)))) (.branch 0 (.leaf (fun pc a b _ _ => (.if_icmp (rs_cdOf b) (rs_tg pc a), 3))) (.leaf (fun _ _ _ _ _ => (.nop, 1)))))))) (.branch 0 (.branch 0 (.branch 0 (.branch 0 (.branch 0 (.leaf (fun _ a _ _ _ => (.iconst (rs_sg a), 1))) (.leaf (fun pc a b _ _ => (.ifnonnull (rs_tg pc b), 3)))) (.branch 0 (.leaf (fun _ _ _ _ _ => (.isub, 1))) (.leaf (fun _ a _ _ _ => (.invokestatic a, 3))))) (.branch 0 (.branch 0 (.leaf (fun _ a _ _ _ => (.aload a, 2))) (.leaf (fun _ _ _ _ _ => (.iaload, 1)))) (.branch 0 (.leaf (fun _ _ _ _ _ => (.iushr, 1))) (.leaf (fun _ _ _ _ _ => (.areturn, 1)))))) (.branch 0 (.branch 0 (.branch 0 (.leaf (fun _ _ _ c' _ => (.ldc_w c', 3))) (.leaf (fun _ a _ _ _ => (.putfield a, 3)))) (.branch 0 (.leaf (fun _ _ _ _ _ => (.iand, 1))) (.leaf (fun _ a _ _ _ => (.invokestatic a, 3))))) (.branch 0 (.branch 0 (.leaf (fun _ a _ _ _ => (.astore a, 2))) (.leaf (fun _ a _ _ _ => (.new a, 3)))) (.branch 0 (.leaf (fun pc a _ _ _ => (.goto (rs_tg pc a), 3))) (.leaf (fun _ _ _ _ _ => (.nop, 1))))))) (.branch 0 (.branch 0 (.branch 0 (.branch 0 (.leaf (fun _ a _ _ _ => (.sipush (rs_sg a), 3))) (.leaf (fun pc a b c' l' => (.lookupswitch (rs_tg pc (rs_nth l' 0 1)) #[(rs_sg a, rs_tg pc b), (rs_sg c', rs_tg pc (rs_nth l' 0 0))], 9 + (3 - pc % 4) + 16)))) (.branch 0 (.leaf (fun _ _ _ _ _ => (.idiv, 1))) (.leaf (fun _ a _ _ _ => (.invokestatic a, 3))))) (.branch 0 (.branch 0 (.leaf (fun _ a _ _ _ => (.istore a, 2))) (.leaf (fun _ _ _ _ _ => (.aaload, 1)))) (.branch 0 (.leaf (fun _ _ _ _ _ => (.dup, 1))) (.leaf (fun _ _ _ _ _ => (.nop, 1)))))) (.branch 0 (.branch 0 (.branch 0 (.leaf (fun _ a _ _ _ => (.iload a, 2))) (.leaf (fun _ a _ _ _ => (.putfield a, 3)))) (.branch 0 (.leaf (fun _ _ _ _ _ => (.ishl, 1))) (.leaf (fun _ _ _ _ _ => (.ireturn, 1))))) (.branch 0 (.branch 0 (.leaf (fun _ a b _ _ => (.iinc a (rs_sg b), 3))) (.leaf (fun _ a _ _ _ => (.anewarray a, 3)))) (.branch 0 (.leaf (fun pc a b _ _ => (.ifCond (rs_cdOf b) (rs_tg pc a), 3))) (.leaf (fun _ _ _ _ _ => (.nop, 1)))))))))
noncomputable def rs_dsL : Lean.RArray rs_Dc := (.branch 0 (.branch 0 (.branch 0 (.branch 0 (.branch 0 (.branch 0 (.leaf (fun _ _ _ _ _ => (.nop, 1))) (.leaf (fun pc a b _ _ => (.ifnull (rs_tg pc a), 3)))) (.branch 0 (.leaf (fun _ _ _ _ _ => (.iadd, 1))) (.leaf (fun _ a _ _ _ => (.invokespecial a, 3))))) (.branch 0 (.branch 0 (.leaf (fun _ a _ _ _ => (.iload_n ⟨a % 4, Nat.mod_lt _ (by decide)⟩, 1))) (.leaf (fun _ _ _ _ _ => (.arraylength, 1)))) (.branch 0 (.leaf (fun _ _ _ _ _ => (.ishr, 1))) (.leaf (fun _ _ _ _ _ => (.ireturn, 1)))))) (.branch 0 (.branch 0 (.branch 0 (.leaf (fun _ _ _ c' _ => (.ldc c', 2))) (.leaf (fun _ a _ _ _ => (.getfield a, 3)))) (.branch 0 (.leaf (fun _ _ _ _ _ => (.irem, 1))) (.leaf (fun _ a _ _ _ => (.invokevirtual a, 3))))) (.branch 0 (.branch 0 (.leaf (fun _ a _ _ _ => (.istore_n ⟨a % 4, Nat.mod_lt _ (by decide)⟩, 1))) (.leaf (fun _ _ _ _ _ => (.aastore, 1)))) (.branch 0 (.leaf (fun _ _ _ _ _ => (.dup2, 1))) (.leaf (fun _ _ _ _ _ => (.iaload, 1))))))) (.branch 0 (.branch 0 (.branch 0 (.branch 0 (.leaf (fun _ a _ _ _ => (.bipush (rs_sg a), 2))) (.leaf (fun pc a b c' l' => (.tableswitch (rs_tg pc c') (a : Int) ((a : Int) + (b : Int) - 1) (l'.map (rs_tg pc)).toArray, 13 + (3 - pc % 4) + 4 * b)))) (.branch 0 (.leaf (fun _ _ _ _ _ => (.imul, 1))) (.leaf (fun _ a _ _ _ => (.invokestatic a, 3))))) (.branch 0 (.branch 0 (.leaf (fun _ a _ _ _ => (.aload_n ⟨a % 4, Nat.mod_lt _ (by decide)⟩, 1))) (.leaf (fun _ _ _ _ _ => (.iastore, 1)))) (.branch 0 (.leaf (fun _ _ _ _ _ => (.pop, 1))) (.leaf (fun _ _ _ _ _ => (.return_, 1)))))) (.branch 0 (.branch 0 (.branch 0 (.leaf (fun _ _ _ _ _ => (.aconst_null, 1))) (.leaf (fun _ a _ _ _ => (.putfield a, 3)))) (.branch 0 (.leaf (fun _ _ _ _ _ => (.ior, 1))) (.leaf (fun _ a _ _ _ => (.invokespecial a, 3))))) (.branch 0 (.branch 0 (.leaf (fun _ a _ _ _ => (.astore_n ⟨a % 4, Nat.mod_lt _ (by decide)⟩, 1))) (.leaf (fun _ _ _ _ _ => (.newarray .int, 2)))) (.branch 0 (.leaf (fun pc a b _ _ => (.if_icmp (rs_cdOf b) (rs_tg pc a), 3))) (.leaf (fun _ _ _ _ _ => (.nop, 1)))))))) (.branch 0 (.branch 0 (.branch 0 (.branch 0 (.branch 0 (.leaf (fun _ a _ _ _ => (.iconst (rs_sg a), 1))) (.leaf (fun pc a b _ _ => (.ifnonnull (rs_tg pc b), 3)))) (.branch 0 (.leaf (fun _ _ _ _ _ => (.isub, 1))) (.leaf (fun _ a _ _ _ => (.invokestatic a, 3))))) (.branch 0 (.branch 0 (.leaf (fun _ a _ _ _ => (.aload a, 2))) (.leaf (fun _ _ _ _ _ => (.iaload, 1)))) (.branch 0 (.leaf (fun _ _ _ _ _ => (.iushr, 1))) (.leaf (fun _ _ _ _ _ => (.areturn, 1)))))) (.branch 0 (.branch 0 (.branch 0 (.leaf (fun _ _ _ c' _ => (.ldc_w c', 3))) (.leaf (fun _ a _ _ _ => (.putfield a, 3)))) (.branch 0 (.leaf (fun _ _ _ _ _ => (.iand, 1))) (.leaf (fun _ a _ _ _ => (.invokestatic a, 3))))) (.branch 0 (.branch 0 (.leaf (fun _ a _ _ _ => (.astore a, 2))) (.leaf (fun _ a _ _ _ => (.new a, 3)))) (.branch 0 (.leaf (fun pc a _ _ _ => (.goto (rs_tg pc a), 3))) (.leaf (fun _ _ _ _ _ => (.arraylength, 1))))))) (.branch 0 (.branch 0 (.branch 0 (.branch 0 (.leaf (fun _ a _ _ _ => (.sipush (rs_sg a), 3))) (.leaf (fun pc a b c' l' => (.lookupswitch (rs_tg pc (rs_nth l' 0 1)) #[(rs_sg a, rs_tg pc b), (rs_sg c', rs_tg pc (rs_nth l' 0 0))], 9 + (3 - pc % 4) + 16)))) (.branch 0 (.leaf (fun _ _ _ _ _ => (.idiv, 1))) (.leaf (fun _ a _ _ _ => (.invokestatic a, 3))))) (.branch 0 (.branch 0 (.leaf (fun _ a _ _ _ => (.istore a, 2))) (.leaf (fun _ _ _ _ _ => (.aaload, 1)))) (.branch 0 (.leaf (fun _ _ _ _ _ => (.dup, 1))) (.leaf (fun _ _ _ _ _ => (.aload_n ⟨0, by decide⟩, 1)))))) (.branch 0 (.branch 0 (.branch 0 (.leaf (fun _ a _ _ _ => (.iload a, 2))) (.leaf (fun _ a _ _ _ => (.putfield a, 3)))) (.branch 0 (.leaf (fun _ _ _ _ _ => (.ishl, 1))) (.leaf (fun _ _ _ _ _ => (.ireturn, 1))))) (.branch 0 (.branch 0 (.leaf (fun _ a b _ _ => (.iinc a (rs_sg b), 3))) (.leaf (fun _ a _ _ _ => (.anewarray a, 3)))) (.branch 0 (.leaf (fun pc a b _ _ => (.ifCond (rs_cdOf b) (rs_tg pc a), 3))) (.leaf (fun _ _ _ _ _ => (.nop, 1)))))))))
noncomputable def rs_cks (MT : Nat → rk_Mt × Nat × Nat) : Lean.RArray rs_Ck := (.branch 0 (.branch 0 (.branch 0 (.branch 0 (.branch 0 (.branch 0 (.leaf (fun _ _ _ _ _ _ _ _ => true)) (.leaf (fun _ _ _ pc a b _ _ => Nat.beq b (Nat.add pc 3)))) (.branch 0 (.leaf (fun _ _ _ _ _ _ _ _ => true)) (.leaf (fun M _ _ _ a _ _ l' => (rk_tat (.methodLink M.1.cls a Lib.objectInit) (rs_nth l' 0 0) && rk_tat (.instanceMethod Lib.objectInit) (rs_nth l' 0 1)) && (rk_tat (.code Lib.objectInit ⟨#[0xb1]⟩ 1 none) (rs_nth l' 0 2) && (Nat.ble 1 M.2.2.2.2.1 && Nat.ble 20 M.2.2.2.2.2)))))) (.branch 0 (.branch 0 (.leaf (fun _ _ _ _ a b _ _ => Nat.blt a 4 && Nat.beq b 1)) (.leaf (fun _ _ _ _ _ _ _ _ => true))) (.branch 0 (.leaf (fun _ _ _ _ _ _ _ _ => true)) (.leaf (fun M cap _ _ _ _ _ l' => decide (M.2.2.2.1 = some .boolean) && rs_capc cap l'))))) (.branch 0 (.branch 0 (.branch 0 (.leaf (fun M _ _ _ a b c' l' => rk_tat (.constant M.1.cls c' (rs_i a)) (rs_nth l' 0 0) && Nat.beq b 2)) (.leaf (fun _ _ ft _ a b c' _ => rs_fk ft a b c'))) (.branch 0 (.leaf (fun _ _ _ _ _ _ _ _ => true)) (.leaf (rs_cck MT 1)))) (.branch 0 (.branch 0 (.leaf (fun M _ _ _ a b _ _ => (Nat.blt a M.2.2.1 && Nat.blt a 4) && Nat.beq b 1)) (.leaf (fun _ _ _ _ _ _ _ _ => true))) (.branch 0 (.leaf (fun _ _ _ _ _ _ _ _ => true)) (.leaf (fun _ _ _ _ _ _ _ _ => true)))))) (.branch 0 (.branch 0 (.branch 0 (.branch 0 (.leaf (fun _ _ _ _ a b _ _ => decide ((Int8.ofInt (rs_sg a)).toInt32 = rs_i a) && Nat.beq b 2)) (.leaf (fun _ _ _ _ a b _ l' => (Nat.beq l'.length b && Nat.blt 0 b) && Nat.ble (Nat.add a b) 100000))) (.branch 0 (.leaf (fun _ _ _ _ _ _ _ _ => true)) (.leaf (fun M cap _ _ a _ _ l' => (rk_tat (.methodLink M.1.cls a Lib.Math.min.name) (rs_nth l' 0 0) && rk_tat (.static Lib.Math.min.name) (rs_nth l' 0 1)) && ((rk_tat (.initialized "java/lang/Math") (rs_nth l' 0 2) && rk_tat (.code Lib.Math.min.name Lib.Math.min.code 2 (some .int)) (rs_nth l' 0 3)) && ((Nat.ble 1 M.2.2.2.2.1 && Nat.ble 21 M.2.2.2.2.2) && (Nat.ble (rs_nth l' 0 4) cap.1 && Nat.ble (rs_nth l' 0 5) cap.2))))))) (.branch 0 (.branch 0 (.leaf (fun _ _ _ _ a b _ _ => Nat.blt a 4 && Nat.beq b 1)) (.leaf (fun _ _ _ _ _ _ _ _ => true))) (.branch 0 (.leaf (fun _ _ _ _ _ _ _ _ => true)) (.leaf (fun M cap _ _ _ _ _ l' => M.2.2.2.1.isNone && rs_capc cap l'))))) (.branch 0 (.branch 0 (.branch 0 (.leaf (fun _ _ _ _ _ _ _ _ => true)) (.leaf (fun M _ ft _ a b c' l' => (rs_fk ft a b c' && decide (rk_ty b c' = .boolean)) && rs_fin M a b c' l'))) (.branch 0 (.leaf (fun _ _ _ _ _ _ _ _ => true)) (.leaf (rs_cck MT 2)))) (.branch 0 (.branch 0 (.leaf (fun M _ _ _ a b _ _ => (Nat.blt a M.2.2.1 && Nat.blt a 4) && Nat.beq b 1)) (.leaf (fun _ cap _ _ _ _ _ l' => rk_tat (.arrayClass .int) (rs_nth l' 0 2) && rs_capc cap l'))) (.branch 0 (.leaf (fun _ _ _ _ _ b _ _ => Nat.ble b 5)) (.leaf (fun _ _ _ _ _ _ _ _ => true))))))) (.branch 0 (.branch 0 (.branch 0 (.branch 0 (.branch 0 (.leaf (fun _ _ _ _ a b _ _ => decide (a < 4294967296) && Nat.beq b 1)) (.leaf (fun _ _ _ pc a b _ _ => Nat.beq a (Nat.add pc 3)))) (.branch 0 (.leaf (fun _ _ _ _ _ _ _ _ => true)) (.leaf (fun M cap _ _ a _ _ l' => (rk_tat (.methodLink M.1.cls a Lib.Math.max.name) (rs_nth l' 0 0) && rk_tat (.static Lib.Math.max.name) (rs_nth l' 0 1)) && ((rk_tat (.initialized "java/lang/Math") (rs_nth l' 0 2) && rk_tat (.code Lib.Math.max.name Lib.Math.max.code 2 (some .int)) (rs_nth l' 0 3)) && ((Nat.ble 1 M.2.2.2.2.1 && Nat.ble 21 M.2.2.2.2.2) && (Nat.ble (rs_nth l' 0 4) cap.1 && Nat.ble (rs_nth l' 0 5) cap.2))))))) (.branch 0 (.branch 0 (.leaf (fun _ _ _ _ a b _ _ => true && Nat.beq b 2)) (.leaf (fun _ _ _ _ _ _ _ _ => true))) (.branch 0 (.leaf (fun _ _ _ _ _ _ _ _ => true)) (.leaf (fun M cap _ _ _ _ _ l' => (match M.2.2.2.1 with | some t => rs_isA t | none => false) && rs_capc cap l'))))) (.branch 0 (.branch 0 (.branch 0 (.leaf (fun M _ _ _ a b c' l' => rk_tat (.constant M.1.cls c' (rs_i a)) (rs_nth l' 0 0) && Nat.beq b 3)) (.leaf (fun M _ ft _ a b c' l' => (rs_fk ft a b c' && decide (rk_ty b c' = .int)) && rs_fin M a b c' l'))) (.branch 0 (.leaf (fun _ _ _ _ _ _ _ _ => true)) (.leaf (rs_cck MT 0)))) (.branch 0 (.branch 0 (.leaf (fun M _ _ _ a b _ _ => Nat.blt a M.2.2.1 && Nat.beq b 2)) (.leaf (fun M cap _ _ a b c' l' => (rs_newc M a b c' l' && rs_capc cap l') && ((Nat.blt b 16 && Nat.ble c' 32) && (List.range c').all (fun k => rs_dft (rk_ty b k) (rt_g (rt_g rs_dv b) k)))))) (.branch 0 (.leaf (fun _ _ _ _ _ _ _ _ => true)) (.leaf (fun _ _ _ _ _ _ _ _ => true)))))) (.branch 0 (.branch 0 (.branch 0 (.branch 0 (.leaf (fun _ _ _ _ a b _ _ => decide ((Int16.ofInt (rs_sg a)).toInt32 = rs_i a) && Nat.beq b 3)) (.leaf (fun _ _ _ _ a _ c' _ => (decide (a < 4294967296) && decide (c' < 4294967296)) && decide (rs_sg a < rs_sg c')))) (.branch 0 (.leaf (fun _ _ _ _ _ _ _ _ => true)) (.leaf (fun M _ _ _ a _ _ l' => (rk_tat (.methodLink M.1.cls a arraycopyName) (rs_nth l' 0 0) && rk_tat (.native arraycopyName) (rs_nth l' 0 1)) && ((rk_tat (.static arraycopyName) (rs_nth l' 0 2) && rk_tat (.initialized "java/lang/System") (rs_nth l' 0 3)) && (Nat.ble 1 M.2.2.2.2.1 && Nat.ble (8 + (nativeFrameWords "java/lang/System" "arraycopy" 5 + 11)) M.2.2.2.2.2)))))) (.branch 0 (.branch 0 (.leaf (fun M _ _ _ a b _ _ => Nat.blt a M.2.2.1 && Nat.beq b 2)) (.leaf (fun _ _ _ _ _ _ _ _ => true))) (.branch 0 (.leaf (fun _ _ _ _ _ _ _ _ => true)) (.leaf (fun _ _ _ _ _ _ _ _ => true))))) (.branch 0 (.branch 0 (.branch 0 (.leaf (fun _ _ _ _ a b _ _ => true && Nat.beq b 2)) (.leaf (fun M _ ft _ a b c' l' => (rs_fk ft a b c' && rs_isA (rk_ty b c')) && rs_fin M a b c' l'))) (.branch 0 (.leaf (fun _ _ _ _ _ _ _ _ => true)) (.leaf (fun M cap _ _ _ _ _ l' => decide (M.2.2.2.1 = some .int) && rs_capc cap l')))) (.branch 0 (.branch 0 (.leaf (fun M _ _ _ a b _ _ => Nat.blt a M.2.2.1 && decide (b < 4294967296))) (.leaf (fun M cap _ _ a b _ l' => (rk_tat (.classLink M.1.cls a (rs_an b)) (rs_nth l' 0 2) && rs_capc cap l') && (Nat.ble 1 b && Nat.ble b 5)))) (.branch 0 (.leaf (fun _ _ _ _ _ b _ _ => Nat.ble b 5)) (.leaf (fun _ _ _ _ _ _ _ _ => true))))))))
def rs_al3 {α β γ : Type} (P : α → β → γ → Prop) : Lean.RArray α → Lean.RArray β → Lean.RArray γ → Prop
  | .leaf a, .leaf b, .leaf c => P a b c
  | .branch _ a1 a2, .branch _ b1 b2, .branch _ c1 c2 => rs_al3 P a1 b1 c1 ∧ rs_al3 P a2 b2 c2
  | _, _, _ => False
theorem rs_al3E {α β γ : Type} {P : α → β → γ → Prop} : ∀ (a : Lean.RArray α) (b : Lean.RArray β) (c : Lean.RArray γ), rs_al3 P a b c → ∀ i, P (rt_g a i) (rt_g b i) (rt_g c i)
  | .leaf a, .leaf b, .leaf c, h, i => h
  | .branch _ a1 a2, .branch _ b1 b2, .branch _ c1 c2, h, i => by
    rw [rt_g_branch, rt_g_branch, rt_g_branch]
    split
    · exact rs_al3E a1 b1 c1 h.1 _
    · exact rs_al3E a2 b2 c2 h.2 _
  | .leaf _, .leaf _, .branch _ _ _, h, _ => absurd h id
  | .leaf _, .branch _ _ _, _, h, _ => absurd h id
  | .branch _ _ _, .leaf _, _, h, _ => absurd h id
  | .branch _ _ _, .branch _ _ _, .leaf _, h, _ => absurd h id
section RSR
variable (MT : Nat → rk_Mt × Nat × Nat)
def rs_Scr (s : State) (F : rs_Fx) : Prop := ∃ (Ls : Nat) (xs : Nat → Int32), va_X F.1.2.2.2.2.2.1 Ls xs s F.1.2.2.2.1 ∧ F.1.2.2.2.2.2.1 < F.1.2.2.2.1.size ∧ ¬ F.1.2.2.1 F.1.2.2.2.2.2.1 ∧ F.1.2.2.2.2.1 6 = Int32.ofNat Ls ∧ (∀ k, k < Ls → F.1.2.2.2.2.1 k = xs k) ∧ Ls ≤ 6
/-- in the law's own frame -/
def rs_SndS (h : rs_Hd) (d : rs_Dc) (ck : rs_Ck) : Prop := ∀ (p : Program) (l : Launch) (e : Env) (R : Room) (s : State) (m : MethodId) (args : Array Value) (below : List Frame) (meth : Method) (c : Code) (Q : State → Prop) (F : rs_Fx) (M : rk_Mt) (cap : Nat × Nat) (ft : List (Nat × Nat × Nat × Nat)), rs_Cx p R s m args meth c F M cap ft → rs_Scr s F → ∀ (pc a b c' : Nat) (l' : List Nat) (kt : rs_KT) (kc : rs_KC) (kr : rs_KR) (sk lo : List rs_V) (en : rs_E) (w : rs_W),
  decode M.2.1 pc = .ok (d pc a b c' l') → ck M cap ft pc a b c' l' = true → h a b c' l' kt kc kr pc sk lo en w = true → rs_KTok p l e R s m args below meth c Q F kt → rs_KCok l F MT kc → rs_KRok p l e R s m args below meth c Q F M cap kr → rs_G p l e R s m args below meth c Q F pc sk lo en w
def rs_P1 (h : Nat × rs_Hd) (d : rs_Dc) (ck : rs_Ck) : Prop := h.2 = rs_h_no ∨ rs_Snd MT h.2 d ck
def rs_P2 (h : Nat × rs_Hd) (d : rs_Dc) (ck : rs_Ck) : Prop := h.2 = rs_h_no ∨ rs_SndS MT h.2 d ck
theorem rs_toS {h : rs_Hd} {d : rs_Dc} {ck : rs_Ck} (hs : rs_Snd MT h d ck) : rs_SndS MT h d ck := fun p l e R s m args below meth c Q F M cap ft cx _ => hs p l e R s m args below meth c Q F M cap ft cx
theorem rs_o_sal : rs_SndS MT rs_h_sal (fun _ _ _ _ _ => (.aload_n ⟨0, by decide⟩, 1)) (fun _ _ _ _ _ _ _ _ => true) := by
  intro p l e R s m args below meth c Q F M cap ft cx hscr pc a b c' l' kt kc kr sk lo en w hdg hck h hk hc hr ad L f H locs ls st hon
  obtain ⟨hx, hb, ⟨hml, hnL⟩, hown, hts, hK, hA, hN, hroom, hnm, htys, hfl⟩ := cx
  unfold rs_h_sal at h
  rcases hE : rs_ln lo 0 with ⟨t, rr⟩
  rw [hE] at h
  obtain ⟨h3, h⟩ := rs_andE h
  have h3 : t = 6 := rs_eqE h3
  obtain ⟨x, e1, e2⟩ := hon.2.2.2.1.2.2 0 (by rw [hE]; dsimp only; omega)
  rw [hE] at e2
  have ex : x = .ref F.1.2.2.2.2.2.1 := by
    obtain ⟨r1, r2⟩ := rr
    rw [h3] at e2
    exact e2
  rw [ex] at e1 e2
  exact lv_aload_n hx hb hdg rfl e1 (rs_goto9 hk h (rs_push9 hon e2))
theorem rs_den_6 {r : Nat → Int32} {sb : Nat} {ad : Nat → Nat} {nn : Nat} {v : rs_V} {x : Value} (h : v.1 = 6) (hd : rs_den r sb ad nn v x) : x = .ref sb := by
  obtain ⟨t, a, c⟩ := v
  dsimp only at h
  subst h
  exact hd
theorem rs_o_slen : rs_SndS MT rs_h_slen (fun _ _ _ _ _ => (.arraylength, 1)) (fun _ _ _ _ _ _ _ _ => true) := by
  intro p l e R s m args below meth c Q F M cap ft cx hscr pc a b c' l' kt kc kr sk lo en w hdg hck h hk hc hr ad L f H locs ls st hon
  obtain ⟨hx, hb, ⟨hml, hnL⟩, hown, hts, hK, hA, hN, hroom, hnm, htys, hfl⟩ := cx
  obtain ⟨Ls, xs, x1, x2, x3, x4, x5, x6⟩ := hscr
  unfold rs_h_slen at h
  cases sk with
  | nil => cases h
  | cons v sk =>
    obtain ⟨xv, s2, rfl, hv, hon2⟩ := rs_pop9 hon
    obtain ⟨h1, h⟩ := rs_andE h
    have ex := rs_den_6 (rs_eqE h1) hv
    subst ex
    refine va_slen hx hb x1 x2 x3 (rs_w_all hon.2.1).2.2.1 hdg (rs_goto9 hk h (rs_push9 hon2 ?_))
    show Value.int (Int32.ofNat Ls) = .int (F.1.2.2.2.2.1 6 + rs_i 0)
    rw [x4, rs_add0]
theorem rs_o_sld : rs_SndS MT rs_h_sld (fun _ _ _ _ _ => (.iaload, 1)) (fun _ _ _ _ _ _ _ _ => true) := by
  intro p l e R s m args below meth c Q F M cap ft cx hscr pc a b c' l' kt kc kr sk lo en w hdg hck h hk hc hr ad L f H locs ls st hon
  obtain ⟨hx, hb, ⟨hml, hnL⟩, hown, hts, hK, hA, hN, hroom, hnm, htys, hfl⟩ := cx
  obtain ⟨Ls, xs, x1, x2, x3, x4, x5, x6⟩ := hscr
  unfold rs_h_sld at h
  cases sk with
  | nil => cases h
  | cons x sk =>
    obtain ⟨xv, s1, rfl, hxx, hon1⟩ := rs_pop9 hon
    cases sk with
    | nil => cases h
    | cons v sk =>
      obtain ⟨vv, s2, rfl, hv, hon2⟩ := rs_pop9 hon1
      obtain ⟨h1, h⟩ := rs_andE h
      obtain ⟨h2, h⟩ := rs_andE h
      obtain ⟨h3, h⟩ := rs_andE h
      obtain ⟨h4, h⟩ := rs_andE h
      have ex := rs_den_6 (rs_eqE h1) hv
      have ei := rs_den_0 (rs_eqE h2) hxx
      subst ex
      subst ei
      have h3 := rs_leE h3
      have h4 := rs_leE h4
      have hv6 := (hon.1 6).1
      rw [x4] at hv6
      have hb6 : rs_b (Int32.ofNat Ls) = Ls + 2147483648 := by
        have : Int32.ofNat Ls = rs_i Ls := rfl
        rw [this, rs_b_i, rs_bi_e]
        omega
      rw [hb6] at hv6
      have hj : x.2.1 < Ls := by omega
      obtain ⟨i1, i2⟩ := rs_ix hj (by omega)
      refine va_sld hx hb x1 x2 x3 (rs_w_all hon.2.1).2.2.1 i1 hdg (rs_goto9 hk h (rs_push9 hon2 ?_))
      rw [i2]
      show Value.int (xs x.2.1) = .int (F.1.2.2.2.2.1 x.2.1 + rs_i 0)
      rw [rs_add0, x5 _ hj]
theorem rs_disp : ∀ cd, rs_P1 MT (rt_g rs_hs cd) (rt_g rs_ds cd) (rt_g (rs_cks MT) cd) := rs_al3E _ _ _ (show rs_al3 (rs_P1 MT) rs_hs rs_ds (rs_cks MT) from ⟨⟨⟨⟨⟨⟨Or.inl rfl, Or.inr rs_o_ifnull⟩, ⟨Or.inr rs_o_iadd, Or.inr rs_o_oini⟩⟩, ⟨⟨Or.inr rs_o_iload_n, Or.inr rs_o_len⟩, ⟨Or.inr rs_o_ishr, Or.inr rs_o_zret⟩⟩⟩, ⟨⟨⟨Or.inr rs_o_ldc, Or.inr rs_o_get⟩, ⟨Or.inr rs_o_irem, Or.inr rs_o_virt⟩⟩, ⟨⟨Or.inr rs_o_istore_n, Or.inr rs_o_aast⟩, ⟨Or.inr rs_o_dup2, Or.inl rfl⟩⟩⟩⟩, ⟨⟨⟨⟨Or.inr rs_o_bipush, Or.inr rs_o_tsw⟩, ⟨Or.inr rs_o_imul, Or.inr rs_o_min⟩⟩, ⟨⟨Or.inr rs_o_aload_n, Or.inr rs_o_iast⟩, ⟨Or.inr rs_o_pop, Or.inr rs_o_vret⟩⟩⟩, ⟨⟨⟨Or.inr rs_o_null, Or.inr rs_o_putZ⟩, ⟨Or.inr rs_o_ior, Or.inr rs_o_init⟩⟩, ⟨⟨Or.inr rs_o_astore_n, Or.inr rs_o_newa⟩, ⟨Or.inr rs_o_icmp, Or.inl rfl⟩⟩⟩⟩⟩, ⟨⟨⟨⟨⟨Or.inr rs_o_iconst, Or.inr rs_o_ifnonnull⟩, ⟨Or.inr rs_o_isub, Or.inr rs_o_max⟩⟩, ⟨⟨Or.inr rs_o_aload, Or.inr rs_o_iald⟩, ⟨Or.inr rs_o_iushr, Or.inr rs_o_aret⟩⟩⟩, ⟨⟨⟨Or.inr rs_o_ldcw, Or.inr rs_o_putI⟩, ⟨Or.inr rs_o_iand, Or.inr rs_o_stat⟩⟩, ⟨⟨Or.inr rs_o_astore, Or.inr rs_o_new⟩, ⟨Or.inr rs_o_goto, Or.inl rfl⟩⟩⟩⟩, ⟨⟨⟨⟨Or.inr rs_o_sipush, Or.inr rs_o_lsw⟩, ⟨Or.inr rs_o_idiv, Or.inr rs_o_acp⟩⟩, ⟨⟨Or.inr rs_o_istore, Or.inr rs_o_aald⟩, ⟨Or.inr rs_o_dup, Or.inl rfl⟩⟩⟩, ⟨⟨⟨Or.inr rs_o_iload, Or.inr rs_o_putA⟩, ⟨Or.inr rs_o_ishl, Or.inr rs_o_iret⟩⟩, ⟨⟨Or.inr rs_o_iinc, Or.inr rs_o_anew⟩, ⟨Or.inr rs_o_if0, Or.inl rfl⟩⟩⟩⟩⟩⟩)
theorem rs_dispL : ∀ cd, rs_P2 MT (rt_g rs_hsL cd) (rt_g rs_dsL cd) (rt_g (rs_cks MT) cd) := rs_al3E _ _ _ (show rs_al3 (rs_P2 MT) rs_hsL rs_dsL (rs_cks MT) from ⟨⟨⟨⟨⟨⟨Or.inl rfl, Or.inr (rs_toS MT rs_o_ifnull)⟩, ⟨Or.inr (rs_toS MT rs_o_iadd), Or.inr (rs_toS MT rs_o_oini)⟩⟩, ⟨⟨Or.inr (rs_toS MT rs_o_iload_n), Or.inr (rs_toS MT rs_o_len)⟩, ⟨Or.inr (rs_toS MT rs_o_ishr), Or.inr (rs_toS MT rs_o_zret)⟩⟩⟩, ⟨⟨⟨Or.inr (rs_toS MT rs_o_ldc), Or.inr (rs_toS MT rs_o_get)⟩, ⟨Or.inr (rs_toS MT rs_o_irem), Or.inr (rs_toS MT rs_o_virt)⟩⟩, ⟨⟨Or.inr (rs_toS MT rs_o_istore_n), Or.inr (rs_toS MT rs_o_aast)⟩, ⟨Or.inr (rs_toS MT rs_o_dup2), Or.inr (rs_o_sld MT)⟩⟩⟩⟩, ⟨⟨⟨⟨Or.inr (rs_toS MT rs_o_bipush), Or.inr (rs_toS MT rs_o_tsw)⟩, ⟨Or.inr (rs_toS MT rs_o_imul), Or.inr (rs_toS MT rs_o_min)⟩⟩, ⟨⟨Or.inr (rs_toS MT rs_o_aload_n), Or.inr (rs_toS MT rs_o_iast)⟩, ⟨Or.inr (rs_toS MT rs_o_pop), Or.inr (rs_toS MT rs_o_vret)⟩⟩⟩, ⟨⟨⟨Or.inr (rs_toS MT rs_o_null), Or.inr (rs_toS MT rs_o_putZ)⟩, ⟨Or.inr (rs_toS MT rs_o_ior), Or.inr (rs_toS MT rs_o_init)⟩⟩, ⟨⟨Or.inr (rs_toS MT rs_o_astore_n), Or.inr (rs_toS MT rs_o_newa)⟩, ⟨Or.inr (rs_toS MT rs_o_icmp), Or.inl rfl⟩⟩⟩⟩⟩, ⟨⟨⟨⟨⟨Or.inr (rs_toS MT rs_o_iconst), Or.inr (rs_toS MT rs_o_ifnonnull)⟩, ⟨Or.inr (rs_toS MT rs_o_isub), Or.inr (rs_toS MT rs_o_max)⟩⟩, ⟨⟨Or.inr (rs_toS MT rs_o_aload), Or.inr (rs_toS MT rs_o_iald)⟩, ⟨Or.inr (rs_toS MT rs_o_iushr), Or.inr (rs_toS MT rs_o_aret)⟩⟩⟩, ⟨⟨⟨Or.inr (rs_toS MT rs_o_ldcw), Or.inr (rs_toS MT rs_o_putI)⟩, ⟨Or.inr (rs_toS MT rs_o_iand), Or.inr (rs_toS MT rs_o_stat)⟩⟩, ⟨⟨Or.inr (rs_toS MT rs_o_astore), Or.inr (rs_toS MT rs_o_new)⟩, ⟨Or.inr (rs_toS MT rs_o_goto), Or.inr (rs_o_slen MT)⟩⟩⟩⟩, ⟨⟨⟨⟨Or.inr (rs_toS MT rs_o_sipush), Or.inr (rs_toS MT rs_o_lsw)⟩, ⟨Or.inr (rs_toS MT rs_o_idiv), Or.inr (rs_toS MT rs_o_acp)⟩⟩, ⟨⟨Or.inr (rs_toS MT rs_o_istore), Or.inr (rs_toS MT rs_o_aald)⟩, ⟨Or.inr (rs_toS MT rs_o_dup), Or.inr (rs_o_sal MT)⟩⟩⟩, ⟨⟨⟨Or.inr (rs_toS MT rs_o_iload), Or.inr (rs_toS MT rs_o_putA)⟩, ⟨Or.inr (rs_toS MT rs_o_ishl), Or.inr (rs_toS MT rs_o_iret)⟩⟩, ⟨⟨Or.inr (rs_toS MT rs_o_iinc), Or.inr (rs_toS MT rs_o_anew)⟩, ⟨Or.inr (rs_toS MT rs_o_if0), Or.inl rfl⟩⟩⟩⟩⟩⟩)
/-- what the tables must say of method z at each instruction -/
def rs_Tok (ds : Lean.RArray rs_Dc) (t : Lean.RArray rs_I) (M : rk_Mt × Nat × Nat) (ft : List (Nat × Nat × Nat × Nat)) : Prop := ∀ pc cd a b c l, rt_g t pc = (pc, cd, a, b, c, l) → cd = 0 ∨ (decode M.1.2.1 pc = .ok (rt_g ds cd pc a b c l) ∧ rt_g (rs_cks MT) cd M.1 M.2 ft pc a b c l = true)
/-- a method's own facts -/
def rs_Mok (M : rk_Mt × Nat × Nat) (ft : List (Nat × Nat × Nat × Nat)) : Prop := plainName M.1.1.cls = true ∧ (∀ (s : State) (args : Array Value), (∀ w ∈ rk_tbl, w.before args s = true) → rs_NU s → rk_FlOk s args rk_tbl M.1.1.cls (rk_flf ft))
theorem rs_args {dn : rs_V → Value → Prop} (hcat : ∀ v x, dn v x → x.category = 1) : ∀ (as : List rs_V) (vs : List Value), rs_stk dn as vs → ∀ i, (rs_ln as i).1 < 7 → ∃ x, vs[i]? = some x ∧ dn (rs_ln as i) x
  | [], [], _, i, h => absurd h (by show ¬ (9 : Nat) < 7; decide)
  | v :: as, x :: vs, h, 0, _ => ⟨x, rfl, h.1⟩
  | v :: as, x :: vs, h, i + 1, hi => rs_args hcat as vs h.2 i hi
  | [], _ :: _, h, _, _ => absurd h id
  | _ :: _, [], h, _, _ => absurd h id
theorem rs_stk_mem {dn : rs_V → Value → Prop} (hcat : ∀ v x, dn v x → x.category = 1) : ∀ (as : List rs_V) (vs : List Value), rs_stk dn as vs → ∀ x ∈ vs, x.category = 1
  | [], [], _, x, hx => absurd hx List.not_mem_nil
  | v :: as, y :: vs, h, x, hx => by
    rcases List.mem_cons.mp hx with rfl | hx
    · exact hcat _ _ h.1
    · exact rs_stk_mem hcat as vs h.2 x hx
  | [], _ :: _, h, _, _ => absurd h id
  | _ :: _, [], h, _, _ => absurd h id
theorem rs_fr_rf {X : List (ClassId × FieldType) × va_G × (Nat → Prop) × Heap × (Nat → Int32) × Nat × Nat} {hp : rs_H} {nn : Nat} {ad : Nat → Nat} {L : List Nat} {f : Nat → va_E} : rs_fr (X, hp, nn, ad, L, f) hp nn ad L f := ⟨Nat.le_refl _, fun _ _ => rfl, fun _ _ h => h, fun _ h => h, fun i h1 h2 => absurd h2 (by omega), fun _ _ _ => rfl⟩
variable {MT} {FT : Nat → List (Nat × Nat × Nat × Nat)} {ct : Lean.RArray (Lean.RArray rs_I)}
set_option maxHeartbeats 1000000 in
theorem rs_con_of (hMo : ∀ z, rs_Mok (MT z) (FT z)) {l : Launch} {tys : List (ClassId × FieldType)} {D : va_G} {r : Nat → Int32} {sb q : Nat} {as : List rs_V} {en : rs_E} {hp : rs_H} {nn : Nat} {kr : rs_KR} (hty0 : ∃ cI c1 c2 c3 c4 c5 : ClassId, tys = rk_tys cI c1 c2 c3 c4 c5) (hG : ∀ (p : Program) (e : Env) (R : Room) (s : State) (m : MethodId) (args : Array Value) (below : List Frame) (meth : Method) (c : Code) (Q : State → Prop) (F : rs_Fx), rs_Cx p R s m args meth c F (MT q).1 (MT q).2 (FT q) → rs_KRok p l e R s m args below meth c Q F (MT q).1 (MT q).2 kr → rs_G p l e R s m args below meth c Q F 0 [] as en (hp, nn, 0, 0)) : rs_Con l tys D r sb (MT q).1 (MT q).2 as en hp nn kr := by
  intro he hlen0 ad L f vs sz hvs hWd
  refine Met.ofW (cc := (MT q).1.2.1) (maxL := (MT q).1.2.2.1) (ret := (MT q).1.2.2.2.1) (hMo q).1 rfl ?_
  intro p e s m args below meth c s₁ B hml0 hv
  obtain ⟨rfl, hsz, hP, hK, hD0, hN⟩ := hv
  have hts0 := atoms_spec (ws := rk_ws (MT q).1) B.pre
  have hts : ∀ w ∈ rk_tbl, w.before vs.toArray s = true := fun w hw => hts0 w (List.mem_cons_of_mem _ hw)
  have hown : s.vm.findClass (MT q).1.1.cls = some m.cls := findClass_of_methodNamed B.named
  subst hsz
  have hD := hD0.self (sz := s.heap.size)
  generalize hAe : va_A (va_pl L f) s.heap.size = A at hD ⊢
  have hA : ∀ z : Nat, s.heap.size ≤ z → A z := fun z h => by rw [← hAe]; exact Or.inr h
  have hcat := rs_stk_mem (fun _ _ => rs_den_cat) _ _ hvs
  obtain ⟨cI, c1, c2, c3, c4, c5, hty⟩ := hty0
  have cx' : rs_Cx p (headSpec (rk_ws (MT q).1) { frames := (MT q).1.2.2.2.2.1, cells := (MT q).2.1, slots := (MT q).2.2, locals := (MT q).1.2.2.2.2.2 }).room s m vs.toArray meth c ((tys, D, A, s.heap, r, sb, (MT q).1.2.2.1), hp, nn, ad, L, f) (MT q).1 (MT q).2 (FT q) := ⟨B.exec, B.bytes, ⟨hml0, rfl⟩, hown, hts, hK, hA, hN, ⟨Nat.le_refl _, Nat.le_refl _, Nat.le_refl _, Nat.le_refl _⟩, (name_of_methodNamed B.named B.method).1, ⟨cI, c1, c2, c3, c4, c5, hty⟩, (hMo q).2 s _ hts hN⟩
  have hlen9 : (lg_sl vs).length ≤ (MT q).1.2.2.1 := by
    rw [rk_sl_len vs hcat, rs_stk_len _ _ hvs]
    exact hlen0
  have hl := lv_entry vs (n := (MT q).1.2.2.1) hlen9
  rw [lg_entry_eq]
  generalize (lg_sl vs ++ List.replicate ((MT q).1.2.2.1 - (lg_sl vs).length) Slot.unset).toArray = ls at hl ⊢
  have hret : rs_KRok p l e (headSpec (rk_ws (MT q).1) { frames := (MT q).1.2.2.2.2.1, cells := (MT q).2.1, slots := (MT q).2.2, locals := (MT q).1.2.2.2.2.2 }).room s m vs.toArray below meth c (MQ below (rs_Q tys D r sb hp nn ad L f A (MT q).1.2.2.2.1 kr) vs.toArray s (MT q).2.1 (MT q).2.2 A) ((tys, D, A, s.heap, r, sb, (MT q).1.2.2.1), hp, nn, ad, L, f) (MT q).1 (MT q).2 kr := by
    have hlocks := B.notSynchronized
    have hr9 := B.returns
    have hx9 := B.exec
    have hb9 := B.bytes
    intro pc v lo en w hkr hc1 hc2
    have fin : ∀ (x : Option Value) (sk : List rs_V) (st : List Value) (ad' : Nat → Nat) (L' : List Nat) (f' : Nat → va_E) (H : Heap) (locs : List Loc) (ls : Array Slot), rs_on ((tys, D, A, s.heap, r, sb, (MT q).1.2.2.1), hp, nn, ad, L, f) sk lo en w ad' L' f' H locs ls st → (x = none ↔ (MT q).1.2.2.2.1 = none) → (∀ y, x = some y → rs_den r sb ad' w.2.1 v y) → ∀ t : State, t.heap = H → s.WarmedH t.vm → rs_Q tys D r sb hp nn ad L f A (MT q).1.2.2.2.1 kr vs.toArray s (.returned x) t := by
      intro x sk st ad' L' f' H locs ls hon hiff hden t ht hW
      obtain ⟨o1, ⟨o2, o3, o4, o5, o6, o7⟩, o8, -, -⟩ := hon
      exact ⟨⟨x, v, en, w.1, w.2.1, ad', L', f', rfl, hiff, hkr, o1, hden, ⟨o5, o6, o7⟩, o8, by rw [ht]; exact o2, va_K.moved hW.alike hK, o3⟩, o4.F ht⟩
    refine ⟨fun hdg hrt => ?_, fun hdg hrt h3 => ?_, fun hdg hrt h3 h4 => ?_, fun hdg hrt h3 => ?_⟩
    · intro ad' L' f' H locs ls st hon
      have hst := rs_stk_nil hon.2.2.2.2
      have hq9 := fin none _ _ _ _ _ _ _ _ hon ⟨fun _ => hrt, fun _ => rfl⟩ (fun y h => by cases h)
      rw [hst]
      exact W.widen hc1 hc2 (W.vret hx9 hb9 (by rw [hr9]; exact hrt) hq9 hon.2.1.2.2.1.2.2 hdg)
    · intro ad' L' f' H locs ls st hon
      obtain ⟨x, st', hst, hv9, hst'⟩ := rs_stk_cons hon.2.2.2.2
      have hst' := rs_stk_nil hst'
      obtain ⟨y, hy⟩ := rs_den_I h3 hv9
      have hq9 := fin (some x) _ _ _ _ _ _ _ _ hon ⟨fun h => (by cases h), fun h => (by rw [hrt] at h; cases h)⟩ (fun y h => by cases h; exact hv9)
      rw [hst, hst', hy]
      rw [hy] at hq9
      exact W.widen hc1 hc2 (W.iret hx9 hb9 (by rw [hr9]; exact hrt) hq9 hon.2.1.2.2.1.2.2 hdg)
    · intro ad' L' f' H locs ls st hon
      obtain ⟨x, st', hst, hv9, hst'⟩ := rs_stk_cons hon.2.2.2.2
      have hst' := rs_stk_nil hst'
      have hy := rs_den_0 h3 hv9
      have hq9 := fin (some x) _ _ _ _ _ _ _ _ hon ⟨fun h => (by cases h), fun h => (by rw [hrt] at h; cases h)⟩ (fun y h => by cases h; exact hv9)
      rw [hst, hst', hy]
      rw [hy] at hq9
      refine W.widen hc1 hc2 (W.zret (ty := .boolean) hx9 hb9 (by rw [hr9]; exact hrt) ?_ hq9 hon.2.1.2.2.1.2.2 hdg)
      have : v.2.1 = 0 ∨ v.2.1 = 1 := by omega
      rcases this with h | h <;> rw [h] <;> rfl
    · intro ad' L' f' H locs ls st hon
      obtain ⟨rt, hrt1, hrt2⟩ := hrt
      obtain ⟨x, st', hst, hv9, hst'⟩ := rs_stk_cons hon.2.2.2.2
      have hst' := rs_stk_nil hst'
      have hq9 := fin (some x) _ _ _ _ _ _ _ _ hon ⟨fun h => (by cases h), fun h => (by rw [hrt1] at h; cases h)⟩ (fun y h => by cases h; exact hv9)
      rw [hst, hst']
      refine W.widen hc1 hc2 (W.aret hx9 hb9 (by rw [hr9]; exact hrt1) hrt2 ?_ hq9 hon.2.1.2.2.1.2.2 hdg)
      rcases h3 with h3 | h3
      · exact Or.inr ⟨_, (rs_den_R h3 hv9).2⟩
      · exact Or.inl (rs_den_N h3 hv9)
  refine hG p e _ s m vs.toArray below meth c _ _ cx' hret ad L f s.heap [] ls [] ⟨he, ⟨hP, hD, va_S.rf, hWd.1, hWd.2.1, hWd.2.2⟩, rs_fr_rf, ⟨hl.1, hl.2.1, fun i hi => ?_⟩, trivial⟩
  obtain ⟨x, e1, e2⟩ := rs_args (fun _ _ => rs_den_cat) _ _ hvs i hi
  have := rk_args_in vs 0 i hcat e1
  rw [Nat.zero_add] at this
  exact ⟨x, hl.2.2 _ this, e2⟩
set_option maxHeartbeats 1000000 in
theorem rs_run_ok (hT : ∀ z, rs_Tok MT rs_ds (rt_g ct z) (MT z) (FT z)) (hMo : ∀ z, rs_Mok (MT z) (FT z)) : ∀ (n z : Nat) (p : Program) (l : Launch) (e : Env) (R : Room) (s : State) (m : MethodId) (args : Array Value) (below : List Frame) (meth : Method) (c : Code) (Q : State → Prop) (F : rs_Fx), rs_Cx p R s m args meth c F (MT z).1 (MT z).2 (FT z) → ∀ (k : rs_KR) (pc : Nat) (sk lo : List rs_V) (en : rs_E) (w : rs_W), rs_run ct n z k pc sk lo en w = true → rs_KRok p l e R s m args below meth c Q F (MT z).1 (MT z).2 k → rs_G p l e R s m args below meth c Q F pc sk lo en w := by
  intro n
  induction n with
  | zero => intro z p l e R s m args below meth c Q F cx k pc sk lo en w h; cases h
  | succ n ih =>
    intro z p l e R s m args below meth c Q F cx k pc sk lo en w h hr
    have h : @Prod.rec _ _ (fun _ => Bool) (fun p1 r1 => @Prod.rec _ _ (fun _ => Bool) (fun cd r2 => @Prod.rec _ _ (fun _ => Bool) (fun a r_a => @Prod.rec _ _ (fun _ => Bool) (fun b r4 => @Prod.rec _ _ (fun _ => Bool) (fun c l => @Bool.rec (fun _ => Bool) false (@Prod.rec _ _ (fun _ => Bool) (fun _ h => h a b c l (rs_run ct n z k) (fun q as en hp nn kr => rs_run ct n q kr 0 [] as en (hp, nn, 0, 0)) k p1 sk lo en w) (rt_g rs_hs cd)) (Nat.beq p1 pc)) r4) r_a) r2) r1) (rt_g (rt_g ct z) pc) = true := h
    rcases hop : rt_g (rt_g ct z) pc with ⟨p1, cd, a, b, c9, l9⟩
    rw [hop] at h
    obtain ⟨h1, h⟩ := rs_andE h
    have h1 : p1 = pc := rs_eqE h1
    rw [h1] at h hop
    rcases hh : rt_g rs_hs cd with ⟨n9, hd⟩
    rw [hh] at h
    have h : hd a b c9 l9 (rs_run ct n z k) (fun q as en hp nn kr => rs_run ct n q kr 0 [] as en (hp, nn, 0, 0)) k pc sk lo en w = true := h
    have hdp := rs_disp MT cd
    rw [hh] at hdp
    rcases hdp with hno | hs
    · have hno : hd = rs_h_no := hno
      rw [hno] at h
      cases h
    · rcases hT z pc cd a b c9 l9 hop with h0 | ⟨t1, t2⟩
      · rw [h0] at hh
        have : hd = rs_h_no := (congrArg Prod.snd hh).symm
        rw [this] at h
        cases h
      · refine hs p l e R s m args below meth c Q F (MT z).1 (MT z).2 (FT z) cx pc a b c9 l9 _ _ _ sk lo en w t1 t2 h (fun pc sk lo en w h9 => ih z p l e R s m args below meth c Q F cx k pc sk lo en w h9 hr) ?_ hr
        intro q as en hp nn kr hq
        exact rs_con_of hMo cx.2.2.2.2.2.2.2.2.2.2.1 (fun p e R s m args below meth c Q F cx' hret => ih q p l e R s m args below meth c Q F cx' kr 0 [] as en (hp, nn, 0, 0) hq hret)
set_option maxHeartbeats 1000000 in
theorem rs_top_ok (hT : ∀ z, rs_Tok MT rs_ds (rt_g ct z) (MT z) (FT z)) (hMo : ∀ z, rs_Mok (MT z) (FT z)) {lt : Lean.RArray rs_I} {Ml : rk_Mt} {capl : Nat × Nat} (hTl : rs_Tok MT rs_dsL lt (Ml, capl) []) {fu : Nat} {k : rs_KR} : ∀ (n : Nat) (p : Program) (l : Launch) (e : Env) (R : Room) (s : State) (m : MethodId) (args : Array Value) (below : List Frame) (meth : Method) (c : Code) (Q : State → Prop) (F : rs_Fx), rs_Cx p R s m args meth c F Ml capl [] → rs_Scr s F → rs_KRok p l e R s m args below meth c Q F Ml capl k → ∀ (pc : Nat) (sk lo : List rs_V) (en : rs_E) (w : rs_W), rs_top ct lt fu k n pc sk lo en w = true → rs_G p l e R s m args below meth c Q F pc sk lo en w := by
  intro n
  induction n with
  | zero => intro p l e R s m args below meth c Q F cx hscr hr pc sk lo en w h; cases h
  | succ n ih =>
    intro p l e R s m args below meth c Q F cx hscr hr pc sk lo en w h
    have h : @Prod.rec _ _ (fun _ => Bool) (fun p1 r1 => @Prod.rec _ _ (fun _ => Bool) (fun cd r2 => @Prod.rec _ _ (fun _ => Bool) (fun a r_a => @Prod.rec _ _ (fun _ => Bool) (fun b r4 => @Prod.rec _ _ (fun _ => Bool) (fun c l => @Bool.rec (fun _ => Bool) false (@Prod.rec _ _ (fun _ => Bool) (fun _ h => h a b c l (rs_top ct lt fu k n) (fun q as en hp nn kr => rs_run ct fu q kr 0 [] as en (hp, nn, 0, 0)) k p1 sk lo en w) (rt_g rs_hsL cd)) (Nat.beq p1 pc)) r4) r_a) r2) r1) (rt_g lt pc) = true := h
    rcases hop : rt_g lt pc with ⟨p1, cd, a, b, c9, l9⟩
    rw [hop] at h
    obtain ⟨h1, h⟩ := rs_andE h
    have h1 : p1 = pc := rs_eqE h1
    rw [h1] at h hop
    rcases hh : rt_g rs_hsL cd with ⟨n9, hd⟩
    rw [hh] at h
    have h : hd a b c9 l9 (rs_top ct lt fu k n) (fun q as en hp nn kr => rs_run ct fu q kr 0 [] as en (hp, nn, 0, 0)) k pc sk lo en w = true := h
    have hdp := rs_dispL MT cd
    rw [hh] at hdp
    rcases hdp with hno | hs
    · have hno : hd = rs_h_no := hno
      rw [hno] at h
      cases h
    · rcases hTl pc cd a b c9 l9 hop with h0 | ⟨t1, t2⟩
      · rw [h0] at hh
        have : hd = rs_h_no := (congrArg Prod.snd hh).symm
        rw [this] at h
        cases h
      · refine hs p l e R s m args below meth c Q F Ml capl [] cx hscr pc a b c9 l9 _ _ _ sk lo en w t1 t2 h (fun pc sk lo en w h9 => ih p l e R s m args below meth c Q F cx hscr hr pc sk lo en w h9) ?_ hr
        intro q as en hp nn kr hq
        exact rs_con_of hMo cx.2.2.2.2.2.2.2.2.2.2.1 (fun p e R s m args below meth c Q F cx' hret => rs_run_ok hT hMo fu q p l e R s m args below meth c Q F cx' kr 0 [] as en (hp, nn, 0, 0) hq hret)
end RSR
end
section
/-! the tables' checks; the law's start -/
section RSF
/-- a field's words, out of the nest's words and the tables -/
theorem rs_fckE {s : State} {args : Array Value} (hts : ∀ w ∈ rk_tbl, w.before args s = true) (hN : rs_NU s) {own : String} {q : Nat × Nat × Nat × Nat} {pl : Nat × Bool} (h : rk_fck own q pl = true) : rk_F1 s args rk_tbl own q := by
  obtain ⟨idx, ci, k, w⟩ := q
  unfold rk_fck at h
  dsimp only at h
  split at h
  · cases h
  · rename_i c hc
    obtain ⟨C, T, N⟩ := c
    dsimp only at h
    simp only [Bool.and_eq_true] at h
    obtain ⟨⟨⟨⟨⟨h1, h2⟩, h3⟩, h4⟩, h5⟩, h6⟩ := h
    obtain ⟨g1, g2, g3⟩ := rk_clsOk ci C T N hc
    have h1 : k < N := by rw [Nat.blt_eq] at h1; exact h1
    refine ⟨C, T, N, rk_ty ci, hc, h1, g1, g2, g3, ?_, ?_, ?_, ?_, ?_⟩
    · split at h2
      · exact Or.inr ⟨"SpaceLinks", va_Nw.use rfl (hN.1.1 _ (List.mem_of_getElem? (of_decide_eq_true h2)))⟩
      · exact Or.inl (hts _ (rk_tat_ok h2))
    · intro hw
      rcases Bool.or_eq_true _ _ ▸ h3 with h | h
      · rw [Nat.ble_eq] at h
        exact absurd hw (by dsimp only; omega)
      · simpa using h
    · intro hw
      dsimp only at hw
      subst hw
      simpa using h4
    · intro hw
      dsimp only at hw
      subst hw
      simpa using h5
    · intro hw
      dsimp only at hw
      subst hw
      exact rk_isO_ok (by simpa using h6)
theorem rs_fcksE {s : State} {args : Array Value} (hts : ∀ w ∈ rk_tbl, w.before args s = true) (hN : rs_NU s) {own : String} : ∀ (l : List (Nat × Nat × Nat × Nat)) (m : List (Nat × Bool)), rk_fcks own l m = true → ∀ q ∈ l, rk_F1 s args rk_tbl own q
  | [], _, _ => fun _ h => absurd h List.not_mem_nil
  | q :: l, p :: m, h => by
    unfold rk_fcks at h
    rw [Bool.and_eq_true] at h
    exact List.forall_mem_cons.mpr ⟨rs_fckE hts hN h.1, rs_fcksE hts hN l m h.2⟩
  | _ :: _, [], h => by cases h
theorem rs_MokE {M : rk_Mt × Nat × Nat} {ft : List (Nat × Nat × Nat × Nat)} {own : String} {pl : List (Nat × Bool)} (h1 : plainName M.1.1.cls = true) (h2 : M.1.1.cls = own) (h3 : rk_fcks own ft pl = true) : rs_Mok M ft := ⟨h1, fun s args hts hN => by
  rw [h2]
  exact rk_FlOk_of (rs_fcksE hts hN ft pl h3)⟩
def rs_lvs {α : Type} : Lean.RArray α → List α
  | .leaf a => [a]
  | .branch _ a b => rs_lvs a ++ rs_lvs b
theorem rs_lvsE {α : Type} : ∀ (t : Lean.RArray α) (i : Nat), rt_g t i ∈ rs_lvs t
  | .leaf a, i => List.mem_singleton.mpr rfl
  | .branch _ a b, i => by
    rw [rt_g_branch]
    split
    · exact List.mem_append_left _ (rs_lvsE a _)
    · exact List.mem_append_right _ (rs_lvsE b _)
noncomputable def rs_op1 (MT : Nat → rk_Mt × Nat × Nat) (ds : Lean.RArray rs_Dc) (M : rk_Mt × Nat × Nat) (ft : List (Nat × Nat × Nat × Nat)) (op : rs_I) : Bool := Nat.beq op.2.1 0 || (decide (decode M.1.2.1 op.1 = .ok (rt_g ds op.2.1 op.1 op.2.2.1 op.2.2.2.1 op.2.2.2.2.1 op.2.2.2.2.2)) && rt_g (rs_cks MT) op.2.1 M.1 M.2 ft op.1 op.2.2.1 op.2.2.2.1 op.2.2.2.2.1 op.2.2.2.2.2)
noncomputable def rs_opA (MT : Nat → rk_Mt × Nat × Nat) (ds : Lean.RArray rs_Dc) (M : rk_Mt × Nat × Nat) (ft : List (Nat × Nat × Nat × Nat)) (t : Lean.RArray rs_I) : Bool := (rs_lvs t).all (rs_op1 MT ds M ft)
theorem rs_TokE {MT : Nat → rk_Mt × Nat × Nat} {ds : Lean.RArray rs_Dc} {M : rk_Mt × Nat × Nat} {ft : List (Nat × Nat × Nat × Nat)} {t : Lean.RArray rs_I} (h : rs_opA MT ds M ft t = true) : rs_Tok MT ds t M ft := by
  intro pc cd a b c l hop
  have h1 := List.all_eq_true.mp h _ (rs_lvsE t pc)
  rw [hop] at h1
  unfold rs_op1 at h1
  dsimp only at h1
  rw [Bool.or_eq_true, Bool.and_eq_true] at h1
  rcases h1 with h1 | ⟨h1, h2⟩
  · exact Or.inl (rs_eqE h1)
  · exact Or.inr ⟨of_decide_eq_true h1, h2⟩
end RSF
def rs_x0 (xs : Nat → Int32) (L : Nat) : Nat → Int32 := fun k => if k = 6 then Int32.ofNat L else xs k
noncomputable def rs_one : rs_KR := fun v _ _ _ => (@Bool.rec (fun _ => Bool) false (Nat.beq v.2.1 1) (Nat.beq v.1 0))
def rs_h0 : rs_H := .leaf (99, 0, .leaf (9, 0, 0))
end
