section
-- ===== PART A: goes FIRST, ahead of the names: the tables' words, and 'selects' of the private methods out of them =====
/-- a private method of a class that the tables say can be made, by its rows of tables_1 -/
def lw_okq (q : MethodName × Nat) : Prop := (q.1.cls ≠ "java/lang/invoke/MethodHandle" ∧ q.1.cls ≠ "java/lang/invoke/VarHandle") ∧ Cond.instantiable q.1.cls q.2 ∈ tables_1 ∧ Cond.privateMethod q.1 ∈ tables_1 ∧ Cond.instanceMethod q.1 ∈ tables_1
theorem lw_p0 : lw_okq (⟨"SpaceLinks$World", "leave", "(II)V"⟩, 10) := ⟨⟨by decide +kernel, by decide +kernel⟩, List.mem_of_getElem? (i := 30) (by decide +kernel), List.mem_of_getElem? (i := 465) (by decide +kernel), List.mem_of_getElem? (i := 466) (by decide +kernel)⟩
theorem lw_p1 : lw_okq (⟨"SpaceLinks$World", "hear", "(I)V"⟩, 10) := ⟨⟨by decide +kernel, by decide +kernel⟩, List.mem_of_getElem? (i := 30) (by decide +kernel), List.mem_of_getElem? (i := 555) (by decide +kernel), List.mem_of_getElem? (i := 556) (by decide +kernel)⟩
theorem lw_p2 : lw_okq (⟨"SpaceLinks$World", "draw", "()I"⟩, 10) := ⟨⟨by decide +kernel, by decide +kernel⟩, List.mem_of_getElem? (i := 30) (by decide +kernel), List.mem_of_getElem? (i := 559) (by decide +kernel), List.mem_of_getElem? (i := 560) (by decide +kernel)⟩
theorem lw_p3 : lw_okq (⟨"SpaceLinks$World", "hearCredit", "(I)V"⟩, 10) := ⟨⟨by decide +kernel, by decide +kernel⟩, List.mem_of_getElem? (i := 30) (by decide +kernel), List.mem_of_getElem? (i := 565) (by decide +kernel), List.mem_of_getElem? (i := 566) (by decide +kernel)⟩
theorem lw_p4 : lw_okq (⟨"SpaceLinks$World", "hearTime", "(II)V"⟩, 10) := ⟨⟨by decide +kernel, by decide +kernel⟩, List.mem_of_getElem? (i := 30) (by decide +kernel), List.mem_of_getElem? (i := 569) (by decide +kernel), List.mem_of_getElem? (i := 570) (by decide +kernel)⟩
theorem lw_p5 : lw_okq (⟨"SpaceLinks$World", "hearData", "(II)V"⟩, 10) := ⟨⟨by decide +kernel, by decide +kernel⟩, List.mem_of_getElem? (i := 30) (by decide +kernel), List.mem_of_getElem? (i := 581) (by decide +kernel), List.mem_of_getElem? (i := 582) (by decide +kernel)⟩
theorem lw_p6 : lw_okq (⟨"SpaceLinks$World", "grow", "(I)V"⟩, 10) := ⟨⟨by decide +kernel, by decide +kernel⟩, List.mem_of_getElem? (i := 30) (by decide +kernel), List.mem_of_getElem? (i := 585) (by decide +kernel), List.mem_of_getElem? (i := 586) (by decide +kernel)⟩
theorem lw_p7 : lw_okq (⟨"SpaceLinks$World", "growOn", "(I)V"⟩, 10) := ⟨⟨by decide +kernel, by decide +kernel⟩, List.mem_of_getElem? (i := 30) (by decide +kernel), List.mem_of_getElem? (i := 589) (by decide +kernel), List.mem_of_getElem? (i := 590) (by decide +kernel)⟩
theorem lw_p8 : lw_okq (⟨"SpaceLinks$World", "serve", "(LSpaceLinks$Router;I)V"⟩, 10) := ⟨⟨by decide +kernel, by decide +kernel⟩, List.mem_of_getElem? (i := 30) (by decide +kernel), List.mem_of_getElem? (i := 593) (by decide +kernel), List.mem_of_getElem? (i := 594) (by decide +kernel)⟩
theorem lw_p9 : lw_okq (⟨"SpaceLinks$World", "spill", "(I)I"⟩, 10) := ⟨⟨by decide +kernel, by decide +kernel⟩, List.mem_of_getElem? (i := 30) (by decide +kernel), List.mem_of_getElem? (i := 597) (by decide +kernel), List.mem_of_getElem? (i := 598) (by decide +kernel)⟩
theorem lw_p10 : lw_okq (⟨"SpaceLinks$World", "obeys", "(LSpaceLinks$Router;I)Z"⟩, 10) := ⟨⟨by decide +kernel, by decide +kernel⟩, List.mem_of_getElem? (i := 30) (by decide +kernel), List.mem_of_getElem? (i := 606) (by decide +kernel), List.mem_of_getElem? (i := 607) (by decide +kernel)⟩
theorem lw_p11 : lw_okq (⟨"SpaceLinks$World", "answer", "(LSpaceLinks$Router;IZ)V"⟩, 10) := ⟨⟨by decide +kernel, by decide +kernel⟩, List.mem_of_getElem? (i := 30) (by decide +kernel), List.mem_of_getElem? (i := 611) (by decide +kernel), List.mem_of_getElem? (i := 612) (by decide +kernel)⟩
theorem lw_p12 : lw_okq (⟨"SpaceLinks$World", "begin", "(LSpaceLinks$Router;I)Z"⟩, 10) := ⟨⟨by decide +kernel, by decide +kernel⟩, List.mem_of_getElem? (i := 30) (by decide +kernel), List.mem_of_getElem? (i := 619) (by decide +kernel), List.mem_of_getElem? (i := 620) (by decide +kernel)⟩
theorem lw_p13 : lw_okq (⟨"SpaceLinks$World", "openPort", "(II)I"⟩, 10) := ⟨⟨by decide +kernel, by decide +kernel⟩, List.mem_of_getElem? (i := 30) (by decide +kernel), List.mem_of_getElem? (i := 635) (by decide +kernel), List.mem_of_getElem? (i := 636) (by decide +kernel)⟩
theorem lw_p14 : lw_okq (⟨"SpaceLinks$World", "stick", "(I)V"⟩, 10) := ⟨⟨by decide +kernel, by decide +kernel⟩, List.mem_of_getElem? (i := 30) (by decide +kernel), List.mem_of_getElem? (i := 642) (by decide +kernel), List.mem_of_getElem? (i := 643) (by decide +kernel)⟩
theorem lw_p15 : lw_okq (⟨"SpaceLinks$World", "takeIn", "(I)V"⟩, 10) := ⟨⟨by decide +kernel, by decide +kernel⟩, List.mem_of_getElem? (i := 30) (by decide +kernel), List.mem_of_getElem? (i := 646) (by decide +kernel), List.mem_of_getElem? (i := 647) (by decide +kernel)⟩
def lw_privs_1 : List (MethodName × Nat) := [(⟨"SpaceLinks$World", "leave", "(II)V"⟩, 10), (⟨"SpaceLinks$World", "hear", "(I)V"⟩, 10), (⟨"SpaceLinks$World", "draw", "()I"⟩, 10), (⟨"SpaceLinks$World", "hearCredit", "(I)V"⟩, 10), (⟨"SpaceLinks$World", "hearTime", "(II)V"⟩, 10), (⟨"SpaceLinks$World", "hearData", "(II)V"⟩, 10), (⟨"SpaceLinks$World", "grow", "(I)V"⟩, 10), (⟨"SpaceLinks$World", "growOn", "(I)V"⟩, 10), (⟨"SpaceLinks$World", "serve", "(LSpaceLinks$Router;I)V"⟩, 10), (⟨"SpaceLinks$World", "spill", "(I)I"⟩, 10), (⟨"SpaceLinks$World", "obeys", "(LSpaceLinks$Router;I)Z"⟩, 10), (⟨"SpaceLinks$World", "answer", "(LSpaceLinks$Router;IZ)V"⟩, 10), (⟨"SpaceLinks$World", "begin", "(LSpaceLinks$Router;I)Z"⟩, 10), (⟨"SpaceLinks$World", "openPort", "(II)I"⟩, 10), (⟨"SpaceLinks$World", "stick", "(I)V"⟩, 10), (⟨"SpaceLinks$World", "takeIn", "(I)V"⟩, 10)]
theorem lw_r1 : ∀ q ∈ lw_privs_1, lw_okq q := List.forall_mem_cons.mpr ⟨lw_p0, List.forall_mem_cons.mpr ⟨lw_p1, List.forall_mem_cons.mpr ⟨lw_p2, List.forall_mem_cons.mpr ⟨lw_p3, List.forall_mem_cons.mpr ⟨lw_p4, List.forall_mem_cons.mpr ⟨lw_p5, List.forall_mem_cons.mpr ⟨lw_p6, List.forall_mem_cons.mpr ⟨lw_p7, List.forall_mem_cons.mpr ⟨lw_p8, List.forall_mem_cons.mpr ⟨lw_p9, List.forall_mem_cons.mpr ⟨lw_p10, List.forall_mem_cons.mpr ⟨lw_p11, List.forall_mem_cons.mpr ⟨lw_p12, List.forall_mem_cons.mpr ⟨lw_p13, List.forall_mem_cons.mpr ⟨lw_p14, List.forall_mem_cons.mpr ⟨lw_p15, fun _ h => absurd h List.not_mem_nil⟩⟩⟩⟩⟩⟩⟩⟩⟩⟩⟩⟩⟩⟩⟩⟩
theorem lw_p16 : lw_okq (⟨"SpaceLinks$World", "transmit", "(I)V"⟩, 10) := ⟨⟨by decide +kernel, by decide +kernel⟩, List.mem_of_getElem? (i := 30) (by decide +kernel), List.mem_of_getElem? (i := 661) (by decide +kernel), List.mem_of_getElem? (i := 662) (by decide +kernel)⟩
theorem lw_p17 : lw_okq (⟨"SpaceLinks$World", "transmitInRun", "(I)V"⟩, 10) := ⟨⟨by decide +kernel, by decide +kernel⟩, List.mem_of_getElem? (i := 30) (by decide +kernel), List.mem_of_getElem? (i := 669) (by decide +kernel), List.mem_of_getElem? (i := 670) (by decide +kernel)⟩
theorem lw_p18 : lw_okq (⟨"SpaceLinks$World", "choose", "(I)I"⟩, 10) := ⟨⟨by decide +kernel, by decide +kernel⟩, List.mem_of_getElem? (i := 30) (by decide +kernel), List.mem_of_getElem? (i := 673) (by decide +kernel), List.mem_of_getElem? (i := 674) (by decide +kernel)⟩
theorem lw_p19 : lw_okq (⟨"SpaceLinks$World", "passOn", "(I)I"⟩, 10) := ⟨⟨by decide +kernel, by decide +kernel⟩, List.mem_of_getElem? (i := 30) (by decide +kernel), List.mem_of_getElem? (i := 677) (by decide +kernel), List.mem_of_getElem? (i := 678) (by decide +kernel)⟩
theorem lw_p20 : lw_okq (⟨"SpaceLinks$World", "unstickSpilling", "()V"⟩, 10) := ⟨⟨by decide +kernel, by decide +kernel⟩, List.mem_of_getElem? (i := 30) (by decide +kernel), List.mem_of_getElem? (i := 684) (by decide +kernel), List.mem_of_getElem? (i := 685) (by decide +kernel)⟩
theorem lw_p21 : lw_okq (⟨"SpaceLinks$Tape", "skipBlanks", "()V"⟩, 7) := ⟨⟨by decide +kernel, by decide +kernel⟩, List.mem_of_getElem? (i := 399) (by decide +kernel), List.mem_of_getElem? (i := 716) (by decide +kernel), List.mem_of_getElem? (i := 717) (by decide +kernel)⟩
theorem lw_p22 : lw_okq (⟨"SpaceLinks$Tape", "readLine", "(LSpaceLinks$World;)Z"⟩, 7) := ⟨⟨by decide +kernel, by decide +kernel⟩, List.mem_of_getElem? (i := 399) (by decide +kernel), List.mem_of_getElem? (i := 720) (by decide +kernel), List.mem_of_getElem? (i := 721) (by decide +kernel)⟩
theorem lw_p23 : lw_okq (⟨"SpaceLinks$Tape", "takesWord", "(Ljava/lang/String;)Z"⟩, 7) := ⟨⟨by decide +kernel, by decide +kernel⟩, List.mem_of_getElem? (i := 399) (by decide +kernel), List.mem_of_getElem? (i := 725) (by decide +kernel), List.mem_of_getElem? (i := 726) (by decide +kernel)⟩
theorem lw_p24 : lw_okq (⟨"SpaceLinks$Tape", "readCable", "(LSpaceLinks$World;)Z"⟩, 7) := ⟨⟨by decide +kernel, by decide +kernel⟩, List.mem_of_getElem? (i := 399) (by decide +kernel), List.mem_of_getElem? (i := 784) (by decide +kernel), List.mem_of_getElem? (i := 785) (by decide +kernel)⟩
theorem lw_p25 : lw_okq (⟨"SpaceLinks$Tape", "readSocket", "(LSpaceLinks$World;I)I"⟩, 7) := ⟨⟨by decide +kernel, by decide +kernel⟩, List.mem_of_getElem? (i := 399) (by decide +kernel), List.mem_of_getElem? (i := 788) (by decide +kernel), List.mem_of_getElem? (i := 789) (by decide +kernel)⟩
theorem lw_p26 : lw_okq (⟨"SpaceLinks$Tape", "readNumber", "(II)I"⟩, 7) := ⟨⟨by decide +kernel, by decide +kernel⟩, List.mem_of_getElem? (i := 399) (by decide +kernel), List.mem_of_getElem? (i := 793) (by decide +kernel), List.mem_of_getElem? (i := 794) (by decide +kernel)⟩
theorem lw_p27 : lw_okq (⟨"SpaceLinks$Tape", "fails", "(II)Z"⟩, 7) := ⟨⟨by decide +kernel, by decide +kernel⟩, List.mem_of_getElem? (i := 399) (by decide +kernel), List.mem_of_getElem? (i := 800) (by decide +kernel), List.mem_of_getElem? (i := 801) (by decide +kernel)⟩
theorem lw_p28 : lw_okq (⟨"SpaceLinks$Tape", "takesSign", "(C)Z"⟩, 7) := ⟨⟨by decide +kernel, by decide +kernel⟩, List.mem_of_getElem? (i := 399) (by decide +kernel), List.mem_of_getElem? (i := 807) (by decide +kernel), List.mem_of_getElem? (i := 808) (by decide +kernel)⟩
theorem lw_p29 : lw_okq (⟨"SpaceLinks$Tape", "readTable", "(LSpaceLinks$World;)Z"⟩, 7) := ⟨⟨by decide +kernel, by decide +kernel⟩, List.mem_of_getElem? (i := 399) (by decide +kernel), List.mem_of_getElem? (i := 812) (by decide +kernel), List.mem_of_getElem? (i := 813) (by decide +kernel)⟩
theorem lw_p30 : lw_okq (⟨"SpaceLinks$Tape", "readPorts", "()I"⟩, 7) := ⟨⟨by decide +kernel, by decide +kernel⟩, List.mem_of_getElem? (i := 399) (by decide +kernel), List.mem_of_getElem? (i := 819) (by decide +kernel), List.mem_of_getElem? (i := 820) (by decide +kernel)⟩
theorem lw_p31 : lw_okq (⟨"SpaceLinks", "layAllTold", "()V"⟩, 4) := ⟨⟨by decide +kernel, by decide +kernel⟩, List.mem_of_getElem? (i := 22) (by decide +kernel), List.mem_of_getElem? (i := 823) (by decide +kernel), List.mem_of_getElem? (i := 824) (by decide +kernel)⟩
def lw_privs_2 : List (MethodName × Nat) := [(⟨"SpaceLinks$World", "transmit", "(I)V"⟩, 10), (⟨"SpaceLinks$World", "transmitInRun", "(I)V"⟩, 10), (⟨"SpaceLinks$World", "choose", "(I)I"⟩, 10), (⟨"SpaceLinks$World", "passOn", "(I)I"⟩, 10), (⟨"SpaceLinks$World", "unstickSpilling", "()V"⟩, 10), (⟨"SpaceLinks$Tape", "skipBlanks", "()V"⟩, 7), (⟨"SpaceLinks$Tape", "readLine", "(LSpaceLinks$World;)Z"⟩, 7), (⟨"SpaceLinks$Tape", "takesWord", "(Ljava/lang/String;)Z"⟩, 7), (⟨"SpaceLinks$Tape", "readCable", "(LSpaceLinks$World;)Z"⟩, 7), (⟨"SpaceLinks$Tape", "readSocket", "(LSpaceLinks$World;I)I"⟩, 7), (⟨"SpaceLinks$Tape", "readNumber", "(II)I"⟩, 7), (⟨"SpaceLinks$Tape", "fails", "(II)Z"⟩, 7), (⟨"SpaceLinks$Tape", "takesSign", "(C)Z"⟩, 7), (⟨"SpaceLinks$Tape", "readTable", "(LSpaceLinks$World;)Z"⟩, 7), (⟨"SpaceLinks$Tape", "readPorts", "()I"⟩, 7), (⟨"SpaceLinks", "layAllTold", "()V"⟩, 4)]
theorem lw_r2 : ∀ q ∈ lw_privs_2, lw_okq q := List.forall_mem_cons.mpr ⟨lw_p16, List.forall_mem_cons.mpr ⟨lw_p17, List.forall_mem_cons.mpr ⟨lw_p18, List.forall_mem_cons.mpr ⟨lw_p19, List.forall_mem_cons.mpr ⟨lw_p20, List.forall_mem_cons.mpr ⟨lw_p21, List.forall_mem_cons.mpr ⟨lw_p22, List.forall_mem_cons.mpr ⟨lw_p23, List.forall_mem_cons.mpr ⟨lw_p24, List.forall_mem_cons.mpr ⟨lw_p25, List.forall_mem_cons.mpr ⟨lw_p26, List.forall_mem_cons.mpr ⟨lw_p27, List.forall_mem_cons.mpr ⟨lw_p28, List.forall_mem_cons.mpr ⟨lw_p29, List.forall_mem_cons.mpr ⟨lw_p30, List.forall_mem_cons.mpr ⟨lw_p31, fun _ h => absurd h List.not_mem_nil⟩⟩⟩⟩⟩⟩⟩⟩⟩⟩⟩⟩⟩⟩⟩⟩
theorem lw_p32 : lw_okq (⟨"SpaceLinks", "keptPacket", "(II)LSpaceLinks$Packet;"⟩, 4) := ⟨⟨by decide +kernel, by decide +kernel⟩, List.mem_of_getElem? (i := 22) (by decide +kernel), List.mem_of_getElem? (i := 890) (by decide +kernel), List.mem_of_getElem? (i := 891) (by decide +kernel)⟩
theorem lw_p33 : lw_okq (⟨"SpaceLinksModel", "isSocket", "(I)Z"⟩, 13) := ⟨⟨by decide +kernel, by decide +kernel⟩, List.mem_of_getElem? (i := 1034) (by decide +kernel), List.mem_of_getElem? (i := 1084) (by decide +kernel), List.mem_of_getElem? (i := 1085) (by decide +kernel)⟩
theorem lw_p34 : lw_okq (⟨"SpaceLinksModel", "at", "(II)I"⟩, 13) := ⟨⟨by decide +kernel, by decide +kernel⟩, List.mem_of_getElem? (i := 1034) (by decide +kernel), List.mem_of_getElem? (i := 1088) (by decide +kernel), List.mem_of_getElem? (i := 1089) (by decide +kernel)⟩
theorem lw_p35 : lw_okq (⟨"SpaceLinksModel", "joins", "(II)V"⟩, 13) := ⟨⟨by decide +kernel, by decide +kernel⟩, List.mem_of_getElem? (i := 1034) (by decide +kernel), List.mem_of_getElem? (i := 1092) (by decide +kernel), List.mem_of_getElem? (i := 1093) (by decide +kernel)⟩
theorem lw_p36 : lw_okq (⟨"SpaceLinksModel", "puts", "(III)V"⟩, 13) := ⟨⟨by decide +kernel, by decide +kernel⟩, List.mem_of_getElem? (i := 1034) (by decide +kernel), List.mem_of_getElem? (i := 1096) (by decide +kernel), List.mem_of_getElem? (i := 1097) (by decide +kernel)⟩
theorem lw_p37 : lw_okq (⟨"SpaceLinksModel", "settles", "(I)V"⟩, 13) := ⟨⟨by decide +kernel, by decide +kernel⟩, List.mem_of_getElem? (i := 1034) (by decide +kernel), List.mem_of_getElem? (i := 1100) (by decide +kernel), List.mem_of_getElem? (i := 1101) (by decide +kernel)⟩
theorem lw_p38 : lw_okq (⟨"SpaceLinksModel", "becomes", "(II)V"⟩, 13) := ⟨⟨by decide +kernel, by decide +kernel⟩, List.mem_of_getElem? (i := 1034) (by decide +kernel), List.mem_of_getElem? (i := 1104) (by decide +kernel), List.mem_of_getElem? (i := 1105) (by decide +kernel)⟩
theorem lw_p39 : lw_okq (⟨"SpaceLinksModel", "logs", "(II)V"⟩, 13) := ⟨⟨by decide +kernel, by decide +kernel⟩, List.mem_of_getElem? (i := 1034) (by decide +kernel), List.mem_of_getElem? (i := 1108) (by decide +kernel), List.mem_of_getElem? (i := 1109) (by decide +kernel)⟩
theorem lw_p40 : lw_okq (⟨"SpaceLinksModel", "isLive", "(I)Z"⟩, 13) := ⟨⟨by decide +kernel, by decide +kernel⟩, List.mem_of_getElem? (i := 1034) (by decide +kernel), List.mem_of_getElem? (i := 1112) (by decide +kernel), List.mem_of_getElem? (i := 1113) (by decide +kernel)⟩
theorem lw_p41 : lw_okq (⟨"SpaceLinksModel", "falls", "(II)V"⟩, 13) := ⟨⟨by decide +kernel, by decide +kernel⟩, List.mem_of_getElem? (i := 1034) (by decide +kernel), List.mem_of_getElem? (i := 1116) (by decide +kernel), List.mem_of_getElem? (i := 1117) (by decide +kernel)⟩
theorem lw_p42 : lw_okq (⟨"SpaceLinksModel", "more", "(II)V"⟩, 13) := ⟨⟨by decide +kernel, by decide +kernel⟩, List.mem_of_getElem? (i := 1034) (by decide +kernel), List.mem_of_getElem? (i := 1120) (by decide +kernel), List.mem_of_getElem? (i := 1121) (by decide +kernel)⟩
theorem lw_p43 : lw_okq (⟨"SpaceLinksModel", "buffers", "(II)V"⟩, 13) := ⟨⟨by decide +kernel, by decide +kernel⟩, List.mem_of_getElem? (i := 1034) (by decide +kernel), List.mem_of_getElem? (i := 1124) (by decide +kernel), List.mem_of_getElem? (i := 1125) (by decide +kernel)⟩
theorem lw_p44 : lw_okq (⟨"SpaceLinksModel", "routedTo", "(I)I"⟩, 13) := ⟨⟨by decide +kernel, by decide +kernel⟩, List.mem_of_getElem? (i := 1034) (by decide +kernel), List.mem_of_getElem? (i := 1128) (by decide +kernel), List.mem_of_getElem? (i := 1129) (by decide +kernel)⟩
theorem lw_p45 : lw_okq (⟨"SpaceLinksModel", "spills", "(I)V"⟩, 13) := ⟨⟨by decide +kernel, by decide +kernel⟩, List.mem_of_getElem? (i := 1034) (by decide +kernel), List.mem_of_getElem? (i := 1132) (by decide +kernel), List.mem_of_getElem? (i := 1133) (by decide +kernel)⟩
theorem lw_p46 : lw_okq (⟨"SpaceLinksModel", "losesQueue", "(I)V"⟩, 13) := ⟨⟨by decide +kernel, by decide +kernel⟩, List.mem_of_getElem? (i := 1034) (by decide +kernel), List.mem_of_getElem? (i := 1136) (by decide +kernel), List.mem_of_getElem? (i := 1137) (by decide +kernel)⟩
theorem lw_p47 : lw_okq (⟨"SpaceLinksModel", "ofEnd", "(II)I"⟩, 13) := ⟨⟨by decide +kernel, by decide +kernel⟩, List.mem_of_getElem? (i := 1034) (by decide +kernel), List.mem_of_getElem? (i := 1140) (by decide +kernel), List.mem_of_getElem? (i := 1141) (by decide +kernel)⟩
def lw_privs_3 : List (MethodName × Nat) := [(⟨"SpaceLinks", "keptPacket", "(II)LSpaceLinks$Packet;"⟩, 4), (⟨"SpaceLinksModel", "isSocket", "(I)Z"⟩, 13), (⟨"SpaceLinksModel", "at", "(II)I"⟩, 13), (⟨"SpaceLinksModel", "joins", "(II)V"⟩, 13), (⟨"SpaceLinksModel", "puts", "(III)V"⟩, 13), (⟨"SpaceLinksModel", "settles", "(I)V"⟩, 13), (⟨"SpaceLinksModel", "becomes", "(II)V"⟩, 13), (⟨"SpaceLinksModel", "logs", "(II)V"⟩, 13), (⟨"SpaceLinksModel", "isLive", "(I)Z"⟩, 13), (⟨"SpaceLinksModel", "falls", "(II)V"⟩, 13), (⟨"SpaceLinksModel", "more", "(II)V"⟩, 13), (⟨"SpaceLinksModel", "buffers", "(II)V"⟩, 13), (⟨"SpaceLinksModel", "routedTo", "(I)I"⟩, 13), (⟨"SpaceLinksModel", "spills", "(I)V"⟩, 13), (⟨"SpaceLinksModel", "losesQueue", "(I)V"⟩, 13), (⟨"SpaceLinksModel", "ofEnd", "(II)I"⟩, 13)]
theorem lw_r3 : ∀ q ∈ lw_privs_3, lw_okq q := List.forall_mem_cons.mpr ⟨lw_p32, List.forall_mem_cons.mpr ⟨lw_p33, List.forall_mem_cons.mpr ⟨lw_p34, List.forall_mem_cons.mpr ⟨lw_p35, List.forall_mem_cons.mpr ⟨lw_p36, List.forall_mem_cons.mpr ⟨lw_p37, List.forall_mem_cons.mpr ⟨lw_p38, List.forall_mem_cons.mpr ⟨lw_p39, List.forall_mem_cons.mpr ⟨lw_p40, List.forall_mem_cons.mpr ⟨lw_p41, List.forall_mem_cons.mpr ⟨lw_p42, List.forall_mem_cons.mpr ⟨lw_p43, List.forall_mem_cons.mpr ⟨lw_p44, List.forall_mem_cons.mpr ⟨lw_p45, List.forall_mem_cons.mpr ⟨lw_p46, List.forall_mem_cons.mpr ⟨lw_p47, fun _ h => absurd h List.not_mem_nil⟩⟩⟩⟩⟩⟩⟩⟩⟩⟩⟩⟩⟩⟩⟩⟩
theorem lw_p48 : lw_okq (⟨"SpaceLinksModel", "takesQueue", "(I)I"⟩, 13) := ⟨⟨by decide +kernel, by decide +kernel⟩, List.mem_of_getElem? (i := 1034) (by decide +kernel), List.mem_of_getElem? (i := 1144) (by decide +kernel), List.mem_of_getElem? (i := 1145) (by decide +kernel)⟩
theorem lw_p49 : lw_okq (⟨"SpaceLinksModel", "putsEnd", "(III)V"⟩, 13) := ⟨⟨by decide +kernel, by decide +kernel⟩, List.mem_of_getElem? (i := 1034) (by decide +kernel), List.mem_of_getElem? (i := 1148) (by decide +kernel), List.mem_of_getElem? (i := 1149) (by decide +kernel)⟩
theorem lw_p50 : lw_okq (⟨"SpaceLinksModel", "isMark", "(I)Z"⟩, 13) := ⟨⟨by decide +kernel, by decide +kernel⟩, List.mem_of_getElem? (i := 1034) (by decide +kernel), List.mem_of_getElem? (i := 1152) (by decide +kernel), List.mem_of_getElem? (i := 1153) (by decide +kernel)⟩
theorem lw_p51 : lw_okq (⟨"SpaceLinksModel", "moreEnd", "(II)V"⟩, 13) := ⟨⟨by decide +kernel, by decide +kernel⟩, List.mem_of_getElem? (i := 1034) (by decide +kernel), List.mem_of_getElem? (i := 1156) (by decide +kernel), List.mem_of_getElem? (i := 1157) (by decide +kernel)⟩
theorem lw_p52 : lw_okq (⟨"SpaceLinksModel", "otherOf", "(I)I"⟩, 13) := ⟨⟨by decide +kernel, by decide +kernel⟩, List.mem_of_getElem? (i := 1034) (by decide +kernel), List.mem_of_getElem? (i := 1164) (by decide +kernel), List.mem_of_getElem? (i := 1165) (by decide +kernel)⟩
theorem lw_p53 : lw_okq (⟨"SpaceLinksModel", "turns", "(IZ)Z"⟩, 13) := ⟨⟨by decide +kernel, by decide +kernel⟩, List.mem_of_getElem? (i := 1034) (by decide +kernel), List.mem_of_getElem? (i := 1176) (by decide +kernel), List.mem_of_getElem? (i := 1177) (by decide +kernel)⟩
theorem lw_p54 : lw_okq (⟨"SpaceLinksModel", "isIn", "(III)Z"⟩, 13) := ⟨⟨by decide +kernel, by decide +kernel⟩, List.mem_of_getElem? (i := 1034) (by decide +kernel), List.mem_of_getElem? (i := 1184) (by decide +kernel), List.mem_of_getElem? (i := 1185) (by decide +kernel)⟩
theorem lw_p55 : lw_okq (⟨"SpaceLinksModel", "isRouter", "(I)Z"⟩, 13) := ⟨⟨by decide +kernel, by decide +kernel⟩, List.mem_of_getElem? (i := 1034) (by decide +kernel), List.mem_of_getElem? (i := 1200) (by decide +kernel), List.mem_of_getElem? (i := 1201) (by decide +kernel)⟩
theorem lw_p56 : lw_okq (⟨"SpaceLinksModel", "isAddress", "(I)Z"⟩, 13) := ⟨⟨by decide +kernel, by decide +kernel⟩, List.mem_of_getElem? (i := 1034) (by decide +kernel), List.mem_of_getElem? (i := 1204) (by decide +kernel), List.mem_of_getElem? (i := 1205) (by decide +kernel)⟩
theorem lw_p57 : lw_okq (⟨"SpaceLinksModel", "arePorts", "(I)Z"⟩, 13) := ⟨⟨by decide +kernel, by decide +kernel⟩, List.mem_of_getElem? (i := 1034) (by decide +kernel), List.mem_of_getElem? (i := 1208) (by decide +kernel), List.mem_of_getElem? (i := 1209) (by decide +kernel)⟩
theorem lw_p58 : lw_okq (⟨"SpaceLinksModel", "tables", "(IIIZ)V"⟩, 13) := ⟨⟨by decide +kernel, by decide +kernel⟩, List.mem_of_getElem? (i := 1034) (by decide +kernel), List.mem_of_getElem? (i := 1212) (by decide +kernel), List.mem_of_getElem? (i := 1213) (by decide +kernel)⟩
theorem lw_p59 : lw_okq (⟨"SpaceLinksModel", "putsRouter", "(III)V"⟩, 13) := ⟨⟨by decide +kernel, by decide +kernel⟩, List.mem_of_getElem? (i := 1034) (by decide +kernel), List.mem_of_getElem? (i := 1216) (by decide +kernel), List.mem_of_getElem? (i := 1217) (by decide +kernel)⟩
theorem lw_p60 : lw_okq (⟨"SpaceLinksModel", "isEnd", "(I)Z"⟩, 13) := ⟨⟨by decide +kernel, by decide +kernel⟩, List.mem_of_getElem? (i := 1034) (by decide +kernel), List.mem_of_getElem? (i := 1224) (by decide +kernel), List.mem_of_getElem? (i := 1225) (by decide +kernel)⟩
theorem lw_p61 : lw_okq (⟨"SpaceLinksModel", "ticks", "()V"⟩, 13) := ⟨⟨by decide +kernel, by decide +kernel⟩, List.mem_of_getElem? (i := 1034) (by decide +kernel), List.mem_of_getElem? (i := 1233) (by decide +kernel), List.mem_of_getElem? (i := 1234) (by decide +kernel)⟩
theorem lw_p62 : lw_okq (⟨"SpaceLinksModel", "hearsAll", "()V"⟩, 13) := ⟨⟨by decide +kernel, by decide +kernel⟩, List.mem_of_getElem? (i := 1034) (by decide +kernel), List.mem_of_getElem? (i := 1237) (by decide +kernel), List.mem_of_getElem? (i := 1238) (by decide +kernel)⟩
theorem lw_p63 : lw_okq (⟨"SpaceLinksModel", "hears", "(II)V"⟩, 13) := ⟨⟨by decide +kernel, by decide +kernel⟩, List.mem_of_getElem? (i := 1034) (by decide +kernel), List.mem_of_getElem? (i := 1241) (by decide +kernel), List.mem_of_getElem? (i := 1242) (by decide +kernel)⟩
def lw_privs_4 : List (MethodName × Nat) := [(⟨"SpaceLinksModel", "takesQueue", "(I)I"⟩, 13), (⟨"SpaceLinksModel", "putsEnd", "(III)V"⟩, 13), (⟨"SpaceLinksModel", "isMark", "(I)Z"⟩, 13), (⟨"SpaceLinksModel", "moreEnd", "(II)V"⟩, 13), (⟨"SpaceLinksModel", "otherOf", "(I)I"⟩, 13), (⟨"SpaceLinksModel", "turns", "(IZ)Z"⟩, 13), (⟨"SpaceLinksModel", "isIn", "(III)Z"⟩, 13), (⟨"SpaceLinksModel", "isRouter", "(I)Z"⟩, 13), (⟨"SpaceLinksModel", "isAddress", "(I)Z"⟩, 13), (⟨"SpaceLinksModel", "arePorts", "(I)Z"⟩, 13), (⟨"SpaceLinksModel", "tables", "(IIIZ)V"⟩, 13), (⟨"SpaceLinksModel", "putsRouter", "(III)V"⟩, 13), (⟨"SpaceLinksModel", "isEnd", "(I)Z"⟩, 13), (⟨"SpaceLinksModel", "ticks", "()V"⟩, 13), (⟨"SpaceLinksModel", "hearsAll", "()V"⟩, 13), (⟨"SpaceLinksModel", "hears", "(II)V"⟩, 13)]
theorem lw_r4 : ∀ q ∈ lw_privs_4, lw_okq q := List.forall_mem_cons.mpr ⟨lw_p48, List.forall_mem_cons.mpr ⟨lw_p49, List.forall_mem_cons.mpr ⟨lw_p50, List.forall_mem_cons.mpr ⟨lw_p51, List.forall_mem_cons.mpr ⟨lw_p52, List.forall_mem_cons.mpr ⟨lw_p53, List.forall_mem_cons.mpr ⟨lw_p54, List.forall_mem_cons.mpr ⟨lw_p55, List.forall_mem_cons.mpr ⟨lw_p56, List.forall_mem_cons.mpr ⟨lw_p57, List.forall_mem_cons.mpr ⟨lw_p58, List.forall_mem_cons.mpr ⟨lw_p59, List.forall_mem_cons.mpr ⟨lw_p60, List.forall_mem_cons.mpr ⟨lw_p61, List.forall_mem_cons.mpr ⟨lw_p62, List.forall_mem_cons.mpr ⟨lw_p63, fun _ h => absurd h List.not_mem_nil⟩⟩⟩⟩⟩⟩⟩⟩⟩⟩⟩⟩⟩⟩⟩⟩
theorem lw_p64 : lw_okq (⟨"SpaceLinksModel", "draw", "()I"⟩, 13) := ⟨⟨by decide +kernel, by decide +kernel⟩, List.mem_of_getElem? (i := 1034) (by decide +kernel), List.mem_of_getElem? (i := 1245) (by decide +kernel), List.mem_of_getElem? (i := 1246) (by decide +kernel)⟩
theorem lw_p65 : lw_okq (⟨"SpaceLinksModel", "isData", "(I)Z"⟩, 13) := ⟨⟨by decide +kernel, by decide +kernel⟩, List.mem_of_getElem? (i := 1034) (by decide +kernel), List.mem_of_getElem? (i := 1251) (by decide +kernel), List.mem_of_getElem? (i := 1252) (by decide +kernel)⟩
theorem lw_p66 : lw_okq (⟨"SpaceLinksModel", "hearsData", "(II)V"⟩, 13) := ⟨⟨by decide +kernel, by decide +kernel⟩, List.mem_of_getElem? (i := 1034) (by decide +kernel), List.mem_of_getElem? (i := 1255) (by decide +kernel), List.mem_of_getElem? (i := 1256) (by decide +kernel)⟩
theorem lw_p67 : lw_okq (⟨"SpaceLinksModel", "comesToRouter", "(III)V"⟩, 13) := ⟨⟨by decide +kernel, by decide +kernel⟩, List.mem_of_getElem? (i := 1034) (by decide +kernel), List.mem_of_getElem? (i := 1259) (by decide +kernel), List.mem_of_getElem? (i := 1260) (by decide +kernel)⟩
theorem lw_p68 : lw_okq (⟨"SpaceLinksModel", "ofRouter", "(II)I"⟩, 13) := ⟨⟨by decide +kernel, by decide +kernel⟩, List.mem_of_getElem? (i := 1034) (by decide +kernel), List.mem_of_getElem? (i := 1263) (by decide +kernel), List.mem_of_getElem? (i := 1264) (by decide +kernel)⟩
theorem lw_p69 : lw_okq (⟨"SpaceLinksModel", "moreRouter", "(II)V"⟩, 13) := ⟨⟨by decide +kernel, by decide +kernel⟩, List.mem_of_getElem? (i := 1034) (by decide +kernel), List.mem_of_getElem? (i := 1267) (by decide +kernel), List.mem_of_getElem? (i := 1268) (by decide +kernel)⟩
theorem lw_p70 : lw_okq (⟨"SpaceLinksModel", "comesToEnd", "(II)V"⟩, 13) := ⟨⟨by decide +kernel, by decide +kernel⟩, List.mem_of_getElem? (i := 1034) (by decide +kernel), List.mem_of_getElem? (i := 1271) (by decide +kernel), List.mem_of_getElem? (i := 1272) (by decide +kernel)⟩
theorem lw_p71 : lw_okq (⟨"SpaceLinksModel", "grows", "(I)V"⟩, 13) := ⟨⟨by decide +kernel, by decide +kernel⟩, List.mem_of_getElem? (i := 1034) (by decide +kernel), List.mem_of_getElem? (i := 1275) (by decide +kernel), List.mem_of_getElem? (i := 1276) (by decide +kernel)⟩
theorem lw_p72 : lw_okq (⟨"SpaceLinksModel", "routesAll", "(I)V"⟩, 13) := ⟨⟨by decide +kernel, by decide +kernel⟩, List.mem_of_getElem? (i := 1034) (by decide +kernel), List.mem_of_getElem? (i := 1279) (by decide +kernel), List.mem_of_getElem? (i := 1280) (by decide +kernel)⟩
theorem lw_p73 : lw_okq (⟨"SpaceLinksModel", "looksAt", "(I)V"⟩, 13) := ⟨⟨by decide +kernel, by decide +kernel⟩, List.mem_of_getElem? (i := 1034) (by decide +kernel), List.mem_of_getElem? (i := 1283) (by decide +kernel), List.mem_of_getElem? (i := 1284) (by decide +kernel)⟩
theorem lw_p74 : lw_okq (⟨"SpaceLinksModel", "spillsAhead", "(I)V"⟩, 13) := ⟨⟨by decide +kernel, by decide +kernel⟩, List.mem_of_getElem? (i := 1034) (by decide +kernel), List.mem_of_getElem? (i := 1287) (by decide +kernel), List.mem_of_getElem? (i := 1288) (by decide +kernel)⟩
theorem lw_p75 : lw_okq (⟨"SpaceLinksModel", "takes", "(I)I"⟩, 13) := ⟨⟨by decide +kernel, by decide +kernel⟩, List.mem_of_getElem? (i := 1034) (by decide +kernel), List.mem_of_getElem? (i := 1291) (by decide +kernel), List.mem_of_getElem? (i := 1292) (by decide +kernel)⟩
theorem lw_p76 : lw_okq (⟨"SpaceLinksModel", "spillsOne", "(II)V"⟩, 13) := ⟨⟨by decide +kernel, by decide +kernel⟩, List.mem_of_getElem? (i := 1034) (by decide +kernel), List.mem_of_getElem? (i := 1295) (by decide +kernel), List.mem_of_getElem? (i := 1296) (by decide +kernel)⟩
theorem lw_p77 : lw_okq (⟨"SpaceLinksModel", "does", "(I)Z"⟩, 13) := ⟨⟨by decide +kernel, by decide +kernel⟩, List.mem_of_getElem? (i := 1034) (by decide +kernel), List.mem_of_getElem? (i := 1299) (by decide +kernel), List.mem_of_getElem? (i := 1300) (by decide +kernel)⟩
theorem lw_p78 : lw_okq (⟨"SpaceLinksModel", "writes", "(IIII)Z"⟩, 13) := ⟨⟨by decide +kernel, by decide +kernel⟩, List.mem_of_getElem? (i := 1034) (by decide +kernel), List.mem_of_getElem? (i := 1303) (by decide +kernel), List.mem_of_getElem? (i := 1304) (by decide +kernel)⟩
theorem lw_p79 : lw_okq (⟨"SpaceLinksModel", "meant", "(II)I"⟩, 13) := ⟨⟨by decide +kernel, by decide +kernel⟩, List.mem_of_getElem? (i := 1034) (by decide +kernel), List.mem_of_getElem? (i := 1307) (by decide +kernel), List.mem_of_getElem? (i := 1308) (by decide +kernel)⟩
def lw_privs_5 : List (MethodName × Nat) := [(⟨"SpaceLinksModel", "draw", "()I"⟩, 13), (⟨"SpaceLinksModel", "isData", "(I)Z"⟩, 13), (⟨"SpaceLinksModel", "hearsData", "(II)V"⟩, 13), (⟨"SpaceLinksModel", "comesToRouter", "(III)V"⟩, 13), (⟨"SpaceLinksModel", "ofRouter", "(II)I"⟩, 13), (⟨"SpaceLinksModel", "moreRouter", "(II)V"⟩, 13), (⟨"SpaceLinksModel", "comesToEnd", "(II)V"⟩, 13), (⟨"SpaceLinksModel", "grows", "(I)V"⟩, 13), (⟨"SpaceLinksModel", "routesAll", "(I)V"⟩, 13), (⟨"SpaceLinksModel", "looksAt", "(I)V"⟩, 13), (⟨"SpaceLinksModel", "spillsAhead", "(I)V"⟩, 13), (⟨"SpaceLinksModel", "takes", "(I)I"⟩, 13), (⟨"SpaceLinksModel", "spillsOne", "(II)V"⟩, 13), (⟨"SpaceLinksModel", "does", "(I)Z"⟩, 13), (⟨"SpaceLinksModel", "writes", "(IIII)Z"⟩, 13), (⟨"SpaceLinksModel", "meant", "(II)I"⟩, 13)]
theorem lw_r5 : ∀ q ∈ lw_privs_5, lw_okq q := List.forall_mem_cons.mpr ⟨lw_p64, List.forall_mem_cons.mpr ⟨lw_p65, List.forall_mem_cons.mpr ⟨lw_p66, List.forall_mem_cons.mpr ⟨lw_p67, List.forall_mem_cons.mpr ⟨lw_p68, List.forall_mem_cons.mpr ⟨lw_p69, List.forall_mem_cons.mpr ⟨lw_p70, List.forall_mem_cons.mpr ⟨lw_p71, List.forall_mem_cons.mpr ⟨lw_p72, List.forall_mem_cons.mpr ⟨lw_p73, List.forall_mem_cons.mpr ⟨lw_p74, List.forall_mem_cons.mpr ⟨lw_p75, List.forall_mem_cons.mpr ⟨lw_p76, List.forall_mem_cons.mpr ⟨lw_p77, List.forall_mem_cons.mpr ⟨lw_p78, List.forall_mem_cons.mpr ⟨lw_p79, fun _ h => absurd h List.not_mem_nil⟩⟩⟩⟩⟩⟩⟩⟩⟩⟩⟩⟩⟩⟩⟩⟩
theorem lw_p80 : lw_okq (⟨"SpaceLinksModel", "tableAt", "(II)I"⟩, 13) := ⟨⟨by decide +kernel, by decide +kernel⟩, List.mem_of_getElem? (i := 1034) (by decide +kernel), List.mem_of_getElem? (i := 1311) (by decide +kernel), List.mem_of_getElem? (i := 1312) (by decide +kernel)⟩
theorem lw_p81 : lw_okq (⟨"SpaceLinksModel", "routes", "(II)V"⟩, 13) := ⟨⟨by decide +kernel, by decide +kernel⟩, List.mem_of_getElem? (i := 1034) (by decide +kernel), List.mem_of_getElem? (i := 1315) (by decide +kernel), List.mem_of_getElem? (i := 1316) (by decide +kernel)⟩
theorem lw_p82 : lw_okq (⟨"SpaceLinksModel", "leastOpen", "(II)I"⟩, 13) := ⟨⟨by decide +kernel, by decide +kernel⟩, List.mem_of_getElem? (i := 1034) (by decide +kernel), List.mem_of_getElem? (i := 1319) (by decide +kernel), List.mem_of_getElem? (i := 1320) (by decide +kernel)⟩
theorem lw_p83 : lw_okq (⟨"SpaceLinksModel", "isOpen", "(II)Z"⟩, 13) := ⟨⟨by decide +kernel, by decide +kernel⟩, List.mem_of_getElem? (i := 1034) (by decide +kernel), List.mem_of_getElem? (i := 1323) (by decide +kernel), List.mem_of_getElem? (i := 1324) (by decide +kernel)⟩
theorem lw_p84 : lw_okq (⟨"SpaceLinksModel", "watchOf", "()I"⟩, 13) := ⟨⟨by decide +kernel, by decide +kernel⟩, List.mem_of_getElem? (i := 1034) (by decide +kernel), List.mem_of_getElem? (i := 1327) (by decide +kernel), List.mem_of_getElem? (i := 1328) (by decide +kernel)⟩
theorem lw_p85 : lw_okq (⟨"SpaceLinksModel", "cuts", "(I)V"⟩, 13) := ⟨⟨by decide +kernel, by decide +kernel⟩, List.mem_of_getElem? (i := 1034) (by decide +kernel), List.mem_of_getElem? (i := 1331) (by decide +kernel), List.mem_of_getElem? (i := 1332) (by decide +kernel)⟩
theorem lw_p86 : lw_okq (⟨"SpaceLinksModel", "takesAtEnd", "(I)V"⟩, 13) := ⟨⟨by decide +kernel, by decide +kernel⟩, List.mem_of_getElem? (i := 1034) (by decide +kernel), List.mem_of_getElem? (i := 1335) (by decide +kernel), List.mem_of_getElem? (i := 1336) (by decide +kernel)⟩
theorem lw_p87 : lw_okq (⟨"SpaceLinksModel", "sends", "(I)I"⟩, 13) := ⟨⟨by decide +kernel, by decide +kernel⟩, List.mem_of_getElem? (i := 1034) (by decide +kernel), List.mem_of_getElem? (i := 1339) (by decide +kernel), List.mem_of_getElem? (i := 1340) (by decide +kernel)⟩
theorem lw_p88 : lw_okq (⟨"SpaceLinksModel", "maySell", "(I)Z"⟩, 13) := ⟨⟨by decide +kernel, by decide +kernel⟩, List.mem_of_getElem? (i := 1034) (by decide +kernel), List.mem_of_getElem? (i := 1343) (by decide +kernel), List.mem_of_getElem? (i := 1344) (by decide +kernel)⟩
theorem lw_p89 : lw_okq (⟨"SpaceLinksModel", "sells", "(I)I"⟩, 13) := ⟨⟨by decide +kernel, by decide +kernel⟩, List.mem_of_getElem? (i := 1034) (by decide +kernel), List.mem_of_getElem? (i := 1347) (by decide +kernel), List.mem_of_getElem? (i := 1348) (by decide +kernel)⟩
theorem lw_p90 : lw_okq (⟨"SpaceLinksModel", "sendsInRun", "(I)I"⟩, 13) := ⟨⟨by decide +kernel, by decide +kernel⟩, List.mem_of_getElem? (i := 1034) (by decide +kernel), List.mem_of_getElem? (i := 1351) (by decide +kernel), List.mem_of_getElem? (i := 1352) (by decide +kernel)⟩
theorem lw_p91 : lw_okq (⟨"SpaceLinksModel", "nextData", "(I)I"⟩, 13) := ⟨⟨by decide +kernel, by decide +kernel⟩, List.mem_of_getElem? (i := 1034) (by decide +kernel), List.mem_of_getElem? (i := 1355) (by decide +kernel), List.mem_of_getElem? (i := 1356) (by decide +kernel)⟩
theorem lw_p92 : lw_okq (⟨"SpaceLinksModel", "watches", "(I)V"⟩, 13) := ⟨⟨by decide +kernel, by decide +kernel⟩, List.mem_of_getElem? (i := 1034) (by decide +kernel), List.mem_of_getElem? (i := 1359) (by decide +kernel), List.mem_of_getElem? (i := 1360) (by decide +kernel)⟩
theorem lw_p93 : lw_okq (⟨"SpaceLinksModel", "types", "(I)V"⟩, 13) := ⟨⟨by decide +kernel, by decide +kernel⟩, List.mem_of_getElem? (i := 1034) (by decide +kernel), List.mem_of_getElem? (i := 1367) (by decide +kernel), List.mem_of_getElem? (i := 1368) (by decide +kernel)⟩
theorem lw_p94 : lw_okq (⟨"SpaceLinksModel", "queues", "(II)V"⟩, 13) := ⟨⟨by decide +kernel, by decide +kernel⟩, List.mem_of_getElem? (i := 1034) (by decide +kernel), List.mem_of_getElem? (i := 1379) (by decide +kernel), List.mem_of_getElem? (i := 1380) (by decide +kernel)⟩
theorem lw_p95 : lw_okq (⟨"SpaceLinksModel", "copies", "([I[I)V"⟩, 13) := ⟨⟨by decide +kernel, by decide +kernel⟩, List.mem_of_getElem? (i := 1034) (by decide +kernel), List.mem_of_getElem? (i := 1387) (by decide +kernel), List.mem_of_getElem? (i := 1388) (by decide +kernel)⟩
def lw_privs_6 : List (MethodName × Nat) := [(⟨"SpaceLinksModel", "tableAt", "(II)I"⟩, 13), (⟨"SpaceLinksModel", "routes", "(II)V"⟩, 13), (⟨"SpaceLinksModel", "leastOpen", "(II)I"⟩, 13), (⟨"SpaceLinksModel", "isOpen", "(II)Z"⟩, 13), (⟨"SpaceLinksModel", "watchOf", "()I"⟩, 13), (⟨"SpaceLinksModel", "cuts", "(I)V"⟩, 13), (⟨"SpaceLinksModel", "takesAtEnd", "(I)V"⟩, 13), (⟨"SpaceLinksModel", "sends", "(I)I"⟩, 13), (⟨"SpaceLinksModel", "maySell", "(I)Z"⟩, 13), (⟨"SpaceLinksModel", "sells", "(I)I"⟩, 13), (⟨"SpaceLinksModel", "sendsInRun", "(I)I"⟩, 13), (⟨"SpaceLinksModel", "nextData", "(I)I"⟩, 13), (⟨"SpaceLinksModel", "watches", "(I)V"⟩, 13), (⟨"SpaceLinksModel", "types", "(I)V"⟩, 13), (⟨"SpaceLinksModel", "queues", "(II)V"⟩, 13), (⟨"SpaceLinksModel", "copies", "([I[I)V"⟩, 13)]
theorem lw_r6 : ∀ q ∈ lw_privs_6, lw_okq q := List.forall_mem_cons.mpr ⟨lw_p80, List.forall_mem_cons.mpr ⟨lw_p81, List.forall_mem_cons.mpr ⟨lw_p82, List.forall_mem_cons.mpr ⟨lw_p83, List.forall_mem_cons.mpr ⟨lw_p84, List.forall_mem_cons.mpr ⟨lw_p85, List.forall_mem_cons.mpr ⟨lw_p86, List.forall_mem_cons.mpr ⟨lw_p87, List.forall_mem_cons.mpr ⟨lw_p88, List.forall_mem_cons.mpr ⟨lw_p89, List.forall_mem_cons.mpr ⟨lw_p90, List.forall_mem_cons.mpr ⟨lw_p91, List.forall_mem_cons.mpr ⟨lw_p92, List.forall_mem_cons.mpr ⟨lw_p93, List.forall_mem_cons.mpr ⟨lw_p94, List.forall_mem_cons.mpr ⟨lw_p95, fun _ h => absurd h List.not_mem_nil⟩⟩⟩⟩⟩⟩⟩⟩⟩⟩⟩⟩⟩⟩⟩⟩
theorem lw_p96 : lw_okq (⟨"SpaceLinksModel", "behindBlanks", "()I"⟩, 13) := ⟨⟨by decide +kernel, by decide +kernel⟩, List.mem_of_getElem? (i := 1034) (by decide +kernel), List.mem_of_getElem? (i := 1391) (by decide +kernel), List.mem_of_getElem? (i := 1392) (by decide +kernel)⟩
theorem lw_p97 : lw_okq (⟨"SpaceLinksModel", "here", "()I"⟩, 13) := ⟨⟨by decide +kernel, by decide +kernel⟩, List.mem_of_getElem? (i := 1034) (by decide +kernel), List.mem_of_getElem? (i := 1395) (by decide +kernel), List.mem_of_getElem? (i := 1396) (by decide +kernel)⟩
theorem lw_p98 : lw_okq (⟨"SpaceLinksModel", "takesWord", "(Ljava/lang/String;)Z"⟩, 13) := ⟨⟨by decide +kernel, by decide +kernel⟩, List.mem_of_getElem? (i := 1034) (by decide +kernel), List.mem_of_getElem? (i := 1400) (by decide +kernel), List.mem_of_getElem? (i := 1401) (by decide +kernel)⟩
theorem lw_p99 : lw_okq (⟨"SpaceLinksModel", "letters", "()I"⟩, 13) := ⟨⟨by decide +kernel, by decide +kernel⟩, List.mem_of_getElem? (i := 1034) (by decide +kernel), List.mem_of_getElem? (i := 1404) (by decide +kernel), List.mem_of_getElem? (i := 1405) (by decide +kernel)⟩
theorem lw_p100 : lw_okq (⟨"SpaceLinksModel", "readCable", "()V"⟩, 13) := ⟨⟨by decide +kernel, by decide +kernel⟩, List.mem_of_getElem? (i := 1034) (by decide +kernel), List.mem_of_getElem? (i := 1410) (by decide +kernel), List.mem_of_getElem? (i := 1411) (by decide +kernel)⟩
theorem lw_p101 : lw_okq (⟨"SpaceLinksModel", "readSocket", "(I)I"⟩, 13) := ⟨⟨by decide +kernel, by decide +kernel⟩, List.mem_of_getElem? (i := 1034) (by decide +kernel), List.mem_of_getElem? (i := 1414) (by decide +kernel), List.mem_of_getElem? (i := 1415) (by decide +kernel)⟩
theorem lw_p102 : lw_okq (⟨"SpaceLinksModel", "number", "(II)I"⟩, 13) := ⟨⟨by decide +kernel, by decide +kernel⟩, List.mem_of_getElem? (i := 1034) (by decide +kernel), List.mem_of_getElem? (i := 1419) (by decide +kernel), List.mem_of_getElem? (i := 1420) (by decide +kernel)⟩
theorem lw_p103 : lw_okq (⟨"SpaceLinksModel", "isDigit", "(I)Z"⟩, 13) := ⟨⟨by decide +kernel, by decide +kernel⟩, List.mem_of_getElem? (i := 1034) (by decide +kernel), List.mem_of_getElem? (i := 1423) (by decide +kernel), List.mem_of_getElem? (i := 1424) (by decide +kernel)⟩
theorem lw_p104 : lw_okq (⟨"SpaceLinksModel", "errs", "(II)I"⟩, 13) := ⟨⟨by decide +kernel, by decide +kernel⟩, List.mem_of_getElem? (i := 1034) (by decide +kernel), List.mem_of_getElem? (i := 1427) (by decide +kernel), List.mem_of_getElem? (i := 1428) (by decide +kernel)⟩
theorem lw_p105 : lw_okq (⟨"SpaceLinksModel", "sign", "(I)V"⟩, 13) := ⟨⟨by decide +kernel, by decide +kernel⟩, List.mem_of_getElem? (i := 1034) (by decide +kernel), List.mem_of_getElem? (i := 1431) (by decide +kernel), List.mem_of_getElem? (i := 1432) (by decide +kernel)⟩
theorem lw_p106 : lw_okq (⟨"SpaceLinksModel", "readTable", "()V"⟩, 13) := ⟨⟨by decide +kernel, by decide +kernel⟩, List.mem_of_getElem? (i := 1034) (by decide +kernel), List.mem_of_getElem? (i := 1436) (by decide +kernel), List.mem_of_getElem? (i := 1437) (by decide +kernel)⟩
theorem lw_p107 : lw_okq (⟨"SpaceLinksModel", "isPort", "(I)Z"⟩, 13) := ⟨⟨by decide +kernel, by decide +kernel⟩, List.mem_of_getElem? (i := 1034) (by decide +kernel), List.mem_of_getElem? (i := 1462) (by decide +kernel), List.mem_of_getElem? (i := 1463) (by decide +kernel)⟩
theorem lw_p108 : lw_okq (⟨"SpaceLinksModel", "tablesOf", "(I)I"⟩, 13) := ⟨⟨by decide +kernel, by decide +kernel⟩, List.mem_of_getElem? (i := 1034) (by decide +kernel), List.mem_of_getElem? (i := 1470) (by decide +kernel), List.mem_of_getElem? (i := 1471) (by decide +kernel)⟩
theorem lw_p109 : lw_okq (⟨"SpaceLinksModel", "packetAt", "(II)I"⟩, 13) := ⟨⟨by decide +kernel, by decide +kernel⟩, List.mem_of_getElem? (i := 1034) (by decide +kernel), List.mem_of_getElem? (i := 1486) (by decide +kernel), List.mem_of_getElem? (i := 1487) (by decide +kernel)⟩
theorem lw_p110 : lw_okq (⟨"SpaceLinksModel", "laysHops", "(I)V"⟩, 13) := ⟨⟨by decide +kernel, by decide +kernel⟩, List.mem_of_getElem? (i := 1034) (by decide +kernel), List.mem_of_getElem? (i := 1498) (by decide +kernel), List.mem_of_getElem? (i := 1499) (by decide +kernel)⟩
theorem lw_p111 : lw_okq (⟨"SpaceLinksModel", "onward", "(II)I"⟩, 13) := ⟨⟨by decide +kernel, by decide +kernel⟩, List.mem_of_getElem? (i := 1034) (by decide +kernel), List.mem_of_getElem? (i := 1502) (by decide +kernel), List.mem_of_getElem? (i := 1503) (by decide +kernel)⟩
def lw_privs_7 : List (MethodName × Nat) := [(⟨"SpaceLinksModel", "behindBlanks", "()I"⟩, 13), (⟨"SpaceLinksModel", "here", "()I"⟩, 13), (⟨"SpaceLinksModel", "takesWord", "(Ljava/lang/String;)Z"⟩, 13), (⟨"SpaceLinksModel", "letters", "()I"⟩, 13), (⟨"SpaceLinksModel", "readCable", "()V"⟩, 13), (⟨"SpaceLinksModel", "readSocket", "(I)I"⟩, 13), (⟨"SpaceLinksModel", "number", "(II)I"⟩, 13), (⟨"SpaceLinksModel", "isDigit", "(I)Z"⟩, 13), (⟨"SpaceLinksModel", "errs", "(II)I"⟩, 13), (⟨"SpaceLinksModel", "sign", "(I)V"⟩, 13), (⟨"SpaceLinksModel", "readTable", "()V"⟩, 13), (⟨"SpaceLinksModel", "isPort", "(I)Z"⟩, 13), (⟨"SpaceLinksModel", "tablesOf", "(I)I"⟩, 13), (⟨"SpaceLinksModel", "packetAt", "(II)I"⟩, 13), (⟨"SpaceLinksModel", "laysHops", "(I)V"⟩, 13), (⟨"SpaceLinksModel", "onward", "(II)I"⟩, 13)]
theorem lw_r7 : ∀ q ∈ lw_privs_7, lw_okq q := List.forall_mem_cons.mpr ⟨lw_p96, List.forall_mem_cons.mpr ⟨lw_p97, List.forall_mem_cons.mpr ⟨lw_p98, List.forall_mem_cons.mpr ⟨lw_p99, List.forall_mem_cons.mpr ⟨lw_p100, List.forall_mem_cons.mpr ⟨lw_p101, List.forall_mem_cons.mpr ⟨lw_p102, List.forall_mem_cons.mpr ⟨lw_p103, List.forall_mem_cons.mpr ⟨lw_p104, List.forall_mem_cons.mpr ⟨lw_p105, List.forall_mem_cons.mpr ⟨lw_p106, List.forall_mem_cons.mpr ⟨lw_p107, List.forall_mem_cons.mpr ⟨lw_p108, List.forall_mem_cons.mpr ⟨lw_p109, List.forall_mem_cons.mpr ⟨lw_p110, List.forall_mem_cons.mpr ⟨lw_p111, fun _ h => absurd h List.not_mem_nil⟩⟩⟩⟩⟩⟩⟩⟩⟩⟩⟩⟩⟩⟩⟩⟩
theorem lw_p112 : lw_okq (⟨"SpaceLinksModel", "reaches", "(II)I"⟩, 13) := ⟨⟨by decide +kernel, by decide +kernel⟩, List.mem_of_getElem? (i := 1034) (by decide +kernel), List.mem_of_getElem? (i := 1510) (by decide +kernel), List.mem_of_getElem? (i := 1511) (by decide +kernel)⟩
theorem lw_p113 : lw_okq (⟨"SpaceLinksModel", "onTo", "(II)I"⟩, 13) := ⟨⟨by decide +kernel, by decide +kernel⟩, List.mem_of_getElem? (i := 1034) (by decide +kernel), List.mem_of_getElem? (i := 1514) (by decide +kernel), List.mem_of_getElem? (i := 1515) (by decide +kernel)⟩
theorem lw_p114 : lw_okq (⟨"SpaceLinksModel", "isSold", "(II)Z"⟩, 13) := ⟨⟨by decide +kernel, by decide +kernel⟩, List.mem_of_getElem? (i := 1034) (by decide +kernel), List.mem_of_getElem? (i := 1534) (by decide +kernel), List.mem_of_getElem? (i := 1535) (by decide +kernel)⟩
theorem lw_p115 : lw_okq (⟨"SpaceLinksModel", "cables", "(Z)I"⟩, 13) := ⟨⟨by decide +kernel, by decide +kernel⟩, List.mem_of_getElem? (i := 1034) (by decide +kernel), List.mem_of_getElem? (i := 1546) (by decide +kernel), List.mem_of_getElem? (i := 1547) (by decide +kernel)⟩
theorem lw_p116 : lw_okq (⟨"SpaceLinksModel", "running", "()I"⟩, 13) := ⟨⟨by decide +kernel, by decide +kernel⟩, List.mem_of_getElem? (i := 1034) (by decide +kernel), List.mem_of_getElem? (i := 1550) (by decide +kernel), List.mem_of_getElem? (i := 1551) (by decide +kernel)⟩
theorem lw_p117 : lw_okq (⟨"SpaceLinksModel", "sumOfEnds", "(I)I"⟩, 13) := ⟨⟨by decide +kernel, by decide +kernel⟩, List.mem_of_getElem? (i := 1034) (by decide +kernel), List.mem_of_getElem? (i := 1554) (by decide +kernel), List.mem_of_getElem? (i := 1555) (by decide +kernel)⟩
theorem lw_p118 : lw_okq (⟨"SpaceLinksModel", "sumOf", "(I)I"⟩, 13) := ⟨⟨by decide +kernel, by decide +kernel⟩, List.mem_of_getElem? (i := 1034) (by decide +kernel), List.mem_of_getElem? (i := 1558) (by decide +kernel), List.mem_of_getElem? (i := 1559) (by decide +kernel)⟩
def lw_privs_8 : List (MethodName × Nat) := [(⟨"SpaceLinksModel", "reaches", "(II)I"⟩, 13), (⟨"SpaceLinksModel", "onTo", "(II)I"⟩, 13), (⟨"SpaceLinksModel", "isSold", "(II)Z"⟩, 13), (⟨"SpaceLinksModel", "cables", "(Z)I"⟩, 13), (⟨"SpaceLinksModel", "running", "()I"⟩, 13), (⟨"SpaceLinksModel", "sumOfEnds", "(I)I"⟩, 13), (⟨"SpaceLinksModel", "sumOf", "(I)I"⟩, 13)]
theorem lw_r8 : ∀ q ∈ lw_privs_8, lw_okq q := List.forall_mem_cons.mpr ⟨lw_p112, List.forall_mem_cons.mpr ⟨lw_p113, List.forall_mem_cons.mpr ⟨lw_p114, List.forall_mem_cons.mpr ⟨lw_p115, List.forall_mem_cons.mpr ⟨lw_p116, List.forall_mem_cons.mpr ⟨lw_p117, List.forall_mem_cons.mpr ⟨lw_p118, fun _ h => absurd h List.not_mem_nil⟩⟩⟩⟩⟩⟩⟩
def lw_privs : List (MethodName × Nat) := lw_privs_1 ++ (lw_privs_2 ++ (lw_privs_3 ++ (lw_privs_4 ++ (lw_privs_5 ++ (lw_privs_6 ++ (lw_privs_7 ++ (lw_privs_8)))))))
def lw_tbl : List Cond := k2_sels lw_privs ++ tables_1
theorem lw_privs_ok : ∀ q ∈ lw_privs, lw_okq q := by
  show ∀ q ∈ lw_privs_1 ++ (lw_privs_2 ++ (lw_privs_3 ++ (lw_privs_4 ++ (lw_privs_5 ++ (lw_privs_6 ++ (lw_privs_7 ++ (lw_privs_8))))))), lw_okq q
  exact List.forall_mem_append.mpr ⟨lw_r1, List.forall_mem_append.mpr ⟨lw_r2, List.forall_mem_append.mpr ⟨lw_r3, List.forall_mem_append.mpr ⟨lw_r4, List.forall_mem_append.mpr ⟨lw_r5, List.forall_mem_append.mpr ⟨lw_r6, List.forall_mem_append.mpr ⟨lw_r7, lw_r8⟩⟩⟩⟩⟩⟩⟩
end
section
/-! ===== BEGIN words of one list among another's, by their places ===== -/
theorem goodIn_r {big : List Cond} (ws : List Cond) (ps : List Nat) (hp : ws = ps.filterMap (fun i => big[i]?)) (h : ws.all goodWord = true) : GoodIn big ws := by
  intro w hw
  have h1 := List.all_eq_true.mp h w hw
  rw [hp] at hw
  obtain ⟨i, -, hi⟩ := List.mem_filterMap.mp hw
  have hm : w ∈ big := by first | exact List.mem_of_getElem? hi | exact List.getElem?_mem hi
  exact ⟨hm, good_of_word h1⟩
theorem goodIn_app {big a b : List Cond} (ha : GoodIn big a) (hb : GoodIn big b) : GoodIn big (a ++ b) := fun w h => (List.mem_append.mp h).elim (ha w) (hb w)
theorem goodIn_ca {big a b : List Cond} {c : Cond} (ha : GoodIn big (c :: a)) (hb : GoodIn big b) : GoodIn big (c :: (a ++ b)) := fun w h => (List.mem_cons.mp h).elim (fun e => ha w (List.mem_cons.mpr (Or.inl e))) (fun h => (List.mem_append.mp h).elim (fun h => ha w (List.mem_cons.mpr (Or.inr h))) (hb w))
theorem goodIn_sub {big ws : List Cond} (hm : ∀ w ∈ ws, w ∈ big) (h : ws.all goodWord = true) : GoodIn big ws := fun w hw => ⟨hm w hw, good_of_word (List.all_eq_true.mp h w hw)⟩
/-! ===== END ===== -/

/-! ===== BEGIN printed: names, fields, word lists, decode rows ===== -/
def RX0 : String := "SpaceLinks$Clock"
def TX0 : u_T := fun k => match k with
  | 0 => ("SpaceLinks$Clock", "time", "I", false)
  | 1 => ("SpaceLinks$Clock", "steps", "I", false)
  | _ => ("SpaceLinks$Clock", "jumps", "I", false)
def tyX0 : Nat → FieldType := fun k => match k with
  | 0 => .int
  | 1 => .int
  | _ => .int
abbrev wsX00 : List Cond := u_ws RX0 TX0 3
theorem nmX0 : ∀ a, a < 3 → ∀ b, b < 3 → a ≠ b → (TX0 a).2.1 ≠ (TX0 b).2.1 := by decide +kernel
theorem tyX0_ok : ∀ k, k < 3 → parseFieldDescriptor (TX0 k).2.2.1 = some (tyX0 k) := by decide +kernel
abbrev cX0_init : ByteArray := prog_2_method_1_code
def yX0_init : MethodName := ⟨RX0, "<init>", "()V"⟩
abbrev cX0_copyFrom : ByteArray := prog_2_method_2_code
def yX0_copyFrom : MethodName := ⟨RX0, "copyFrom", "(LSpaceLinks$Clock;)V"⟩
abbrev cX0_next : ByteArray := prog_2_method_3_code
def yX0_next : MethodName := ⟨RX0, "next", "()I"⟩
abbrev cX0_hears : ByteArray := prog_2_method_4_code
def yX0_hears : MethodName := ⟨RX0, "hears", "(I)Z"⟩
def RX1 : String := "SpaceLinks$End"
def TX1 : u_T := fun k => match k with
  | 0 => ("SpaceLinks$End", "queue", "LSpaceLinks$Row;", true)
  | 1 => ("SpaceLinks$End", "clock", "LSpaceLinks$Clock;", true)
  | 2 => ("SpaceLinks$End", "kept", "[LSpaceLinks$Packet;", true)
  | 3 => ("SpaceLinks$End", "coming", "LSpaceLinks$Packet;", false)
  | 4 => ("SpaceLinks$End", "holds", "Z", false)
  | 5 => ("SpaceLinks$End", "received", "I", false)
  | 6 => ("SpaceLinks$End", "receivedWhole", "I", false)
  | _ => ("SpaceLinks$End", "spilled", "I", false)
def tyX1 : Nat → FieldType := fun k => match k with
  | 0 => .object "SpaceLinks$Row"
  | 1 => .object "SpaceLinks$Clock"
  | 2 => .array (.object "SpaceLinks$Packet")
  | 3 => .object "SpaceLinks$Packet"
  | 4 => .boolean
  | 5 => .int
  | 6 => .int
  | _ => .int
abbrev wsX10 : List Cond := u_ws RX1 TX1 8
theorem nmX1 : ∀ a, a < 8 → ∀ b, b < 8 → a ≠ b → (TX1 a).2.1 ≠ (TX1 b).2.1 := by decide +kernel
theorem tyX1_ok : ∀ k, k < 8 → parseFieldDescriptor (TX1 k).2.2.1 = some (tyX1 k) := by decide +kernel
abbrev cX1_init : ByteArray := prog_3_method_1_code
def yX1_init : MethodName := ⟨RX1, "<init>", "()V"⟩
abbrev cX1_copyFrom : ByteArray := prog_3_method_2_code
def yX1_copyFrom : MethodName := ⟨RX1, "copyFrom", "(LSpaceLinks$End;)V"⟩
abbrev cX1_receive : ByteArray := prog_3_method_3_code
def yX1_receive : MethodName := ⟨RX1, "receive", "(ZI)V"⟩
abbrev cX1_keptAt : ByteArray := prog_3_method_4_code
def yX1_keptAt : MethodName := ⟨RX1, "keptAt", "(I)LSpaceLinks$Packet;"⟩
abbrev cX1_tell : ByteArray := prog_3_method_5_code
def yX1_tell : MethodName := ⟨RX1, "tell", "(I)I"⟩
def RX2 : String := "SpaceLinks$Input"
def TX2 : u_T := fun k => match k with
  | 0 => ("SpaceLinks$Input", "order", "[I", true)
  | 1 => ("SpaceLinks$Input", "ordered", "I", false)
  | 2 => ("SpaceLinks$Input", "ordering", "Z", false)
  | 3 => ("SpaceLinks$Input", "mode", "I", false)
  | 4 => ("SpaceLinks$Input", "to", "I", false)
  | 5 => ("SpaceLinks$Input", "from", "I", false)
  | _ => ("SpaceLinks$Input", "stuck", "I", false)
def tyX2 : Nat → FieldType := fun k => match k with
  | 0 => .array .int
  | 1 => .int
  | 2 => .boolean
  | 3 => .int
  | 4 => .int
  | 5 => .int
  | _ => .int
abbrev wsX20 : List Cond := u_ws RX2 TX2 7
theorem nmX2 : ∀ a, a < 7 → ∀ b, b < 7 → a ≠ b → (TX2 a).2.1 ≠ (TX2 b).2.1 := by decide +kernel
theorem tyX2_ok : ∀ k, k < 7 → parseFieldDescriptor (TX2 k).2.2.1 = some (tyX2 k) := by decide +kernel
abbrev cX2_init : ByteArray := prog_4_method_1_code
def yX2_init : MethodName := ⟨RX2, "<init>", "()V"⟩
abbrev cX2_copyFrom : ByteArray := prog_4_method_2_code
def yX2_copyFrom : MethodName := ⟨RX2, "copyFrom", "(LSpaceLinks$Input;)V"⟩
abbrev cX2_beginSpill : ByteArray := prog_4_method_3_code
def yX2_beginSpill : MethodName := ⟨RX2, "beginSpill", "(Z)V"⟩
abbrev cX2_beFree : ByteArray := prog_4_method_4_code
def yX2_beFree : MethodName := ⟨RX2, "beFree", "()V"⟩
abbrev cX2_keep : ByteArray := prog_4_method_5_code
def yX2_keep : MethodName := ⟨RX2, "keep", "(I)V"⟩
abbrev cX2_tell : ByteArray := prog_4_method_6_code
def yX2_tell : MethodName := ⟨RX2, "tell", "(I)I"⟩
def RX3 : String := "SpaceLinks$Log"
def TX3 : u_T := fun k => match k with
  | 0 => ("SpaceLinks$Log", "ticks", "[I", true)
  | 1 => ("SpaceLinks$Log", "whats", "[I", true)
  | 2 => ("SpaceLinks$Log", "sockets", "[I", true)
  | _ => ("SpaceLinks$Log", "came", "I", false)
def tyX3 : Nat → FieldType := fun k => match k with
  | 0 => .array .int
  | 1 => .array .int
  | 2 => .array .int
  | _ => .int
abbrev wsX30 : List Cond := u_ws RX3 TX3 4
theorem nmX3 : ∀ a, a < 4 → ∀ b, b < 4 → a ≠ b → (TX3 a).2.1 ≠ (TX3 b).2.1 := by decide +kernel
theorem tyX3_ok : ∀ k, k < 4 → parseFieldDescriptor (TX3 k).2.2.1 = some (tyX3 k) := by decide +kernel
abbrev cX3_init : ByteArray := prog_5_method_1_code
def yX3_init : MethodName := ⟨RX3, "<init>", "()V"⟩
abbrev cX3_copyFrom : ByteArray := prog_5_method_2_code
def yX3_copyFrom : MethodName := ⟨RX3, "copyFrom", "(LSpaceLinks$Log;)V"⟩
abbrev cX3_add : ByteArray := prog_5_method_3_code
def yX3_add : MethodName := ⟨RX3, "add", "(III)V"⟩
abbrev cX3_tell : ByteArray := prog_5_method_4_code
def yX3_tell : MethodName := ⟨RX3, "tell", "(II)I"⟩
def RX4 : String := "SpaceLinks$Packet"
def TX4 : u_T := fun k => match k with
  | 0 => ("SpaceLinks$Packet", "bytes", "[I", true)
  | 1 => ("SpaceLinks$Packet", "length", "I", false)
  | 2 => ("SpaceLinks$Packet", "whole", "Z", false)
  | _ => ("SpaceLinks$Packet", "tick", "I", false)
def tyX4 : Nat → FieldType := fun k => match k with
  | 0 => .array .int
  | 1 => .int
  | 2 => .boolean
  | _ => .int
abbrev wsX40 : List Cond := u_ws RX4 TX4 4
theorem nmX4 : ∀ a, a < 4 → ∀ b, b < 4 → a ≠ b → (TX4 a).2.1 ≠ (TX4 b).2.1 := by decide +kernel
theorem tyX4_ok : ∀ k, k < 4 → parseFieldDescriptor (TX4 k).2.2.1 = some (tyX4 k) := by decide +kernel
abbrev cX4_init : ByteArray := prog_6_method_1_code
def yX4_init : MethodName := ⟨RX4, "<init>", "()V"⟩
abbrev cX4_copyFrom : ByteArray := prog_6_method_2_code
def yX4_copyFrom : MethodName := ⟨RX4, "copyFrom", "(LSpaceLinks$Packet;)V"⟩
abbrev cX4_add : ByteArray := prog_6_method_3_code
def yX4_add : MethodName := ⟨RX4, "add", "(I)V"⟩
abbrev cX4_at : ByteArray := prog_6_method_4_code
def yX4_at : MethodName := ⟨RX4, "at", "(I)I"⟩
abbrev cX4_tell : ByteArray := prog_6_method_5_code
def yX4_tell : MethodName := ⟨RX4, "tell", "(I)I"⟩
def RX5 : String := "SpaceLinks$Paths"
def TX5 : u_T := fun k => match k with
  | _ => ("", "", "", false)
def tyX5 : Nat → FieldType := fun k => match k with
  | _ => .int
abbrev wsX50 : List Cond := u_ws RX5 TX5 0
theorem nmX5 : ∀ a, a < 0 → ∀ b, b < 0 → a ≠ b → (TX5 a).2.1 ≠ (TX5 b).2.1 := by decide +kernel
theorem tyX5_ok : ∀ k, k < 0 → parseFieldDescriptor (TX5 k).2.2.1 = some (tyX5 k) := by decide +kernel
abbrev cX5_wayPort : ByteArray := prog_7_method_2_code
def yX5_wayPort : MethodName := ⟨RX5, "wayPort", "(LSpaceLinks$World;III)I"⟩
abbrev cX5_cablesTo : ByteArray := prog_7_method_3_code
def yX5_cablesTo : MethodName := ⟨RX5, "cablesTo", "(LSpaceLinks$World;I)[I"⟩
abbrev cX5_portToward : ByteArray := prog_7_method_4_code
def yX5_portToward : MethodName := ⟨RX5, "portToward", "(LSpaceLinks$World;[III)I"⟩
abbrev cX5_routerAt : ByteArray := prog_7_method_5_code
def yX5_routerAt : MethodName := ⟨RX5, "routerAt", "(LSpaceLinks$World;I)I"⟩
abbrev cX5_endsOf : ByteArray := prog_7_method_6_code
def yX5_endsOf : MethodName := ⟨RX5, "endsOf", "(LSpaceLinks$World;II)I"⟩
abbrev cX5_comesAgain : ByteArray := prog_7_method_7_code
def yX5_comesAgain : MethodName := ⟨RX5, "comesAgain", "(LSpaceLinks$World;II)Z"⟩
abbrev cX5_routersBehind : ByteArray := prog_7_method_8_code
def yX5_routersBehind : MethodName := ⟨RX5, "routersBehind", "(LSpaceLinks$World;II)I"⟩
abbrev cX5_isMeant : ByteArray := prog_7_method_9_code
def yX5_isMeant : MethodName := ⟨RX5, "isMeant", "(LSpaceLinks$World;II)Z"⟩
def RX6 : String := "SpaceLinks$Router"
def TX6 : u_T := fun k => match k with
  | 0 => ("SpaceLinks$Router", "tables", "[I", true)
  | 1 => ("SpaceLinks$Router", "clock", "LSpaceLinks$Clock;", true)
  | 2 => ("SpaceLinks$Router", "turn", "I", false)
  | 3 => ("SpaceLinks$Router", "routed", "I", false)
  | 4 => ("SpaceLinks$Router", "taken", "I", false)
  | 5 => ("SpaceLinks$Router", "lost", "I", false)
  | 6 => ("SpaceLinks$Router", "cut", "I", false)
  | 7 => ("SpaceLinks$Router", "empty", "I", false)
  | 8 => ("SpaceLinks$Router", "written", "I", false)
  | _ => ("SpaceLinks$Router", "refused", "I", false)
def tyX6 : Nat → FieldType := fun k => match k with
  | 0 => .array .int
  | 1 => .object "SpaceLinks$Clock"
  | 2 => .int
  | 3 => .int
  | 4 => .int
  | 5 => .int
  | 6 => .int
  | 7 => .int
  | 8 => .int
  | _ => .int
abbrev wsX60 : List Cond := u_ws RX6 TX6 10
theorem nmX6 : ∀ a, a < 10 → ∀ b, b < 10 → a ≠ b → (TX6 a).2.1 ≠ (TX6 b).2.1 := by decide +kernel
theorem tyX6_ok : ∀ k, k < 10 → parseFieldDescriptor (TX6 k).2.2.1 = some (tyX6 k) := by decide +kernel
abbrev cX6_init : ByteArray := prog_8_method_1_code
def yX6_init : MethodName := ⟨RX6, "<init>", "()V"⟩
abbrev cX6_copyFrom : ByteArray := prog_8_method_2_code
def yX6_copyFrom : MethodName := ⟨RX6, "copyFrom", "(LSpaceLinks$Router;)V"⟩
abbrev cX6_write : ByteArray := prog_8_method_3_code
def yX6_write : MethodName := ⟨RX6, "write", "(IIZ)Z"⟩
abbrev cX6_tableFor : ByteArray := prog_8_method_4_code
def yX6_tableFor : MethodName := ⟨RX6, "tableFor", "(I)I"⟩
abbrev cX6_meantBy : ByteArray := prog_8_method_5_code
def yX6_meantBy : MethodName := ⟨RX6, "meantBy", "(I)I"⟩
abbrev cX6_tablesThere : ByteArray := prog_8_method_6_code
def yX6_tablesThere : MethodName := ⟨RX6, "tablesThere", "()I"⟩
abbrev cX6_tell : ByteArray := prog_8_method_7_code
def yX6_tell : MethodName := ⟨RX6, "tell", "(I)I"⟩
def RX7 : String := "SpaceLinks$Row"
def TX7 : u_T := fun k => match k with
  | 0 => ("SpaceLinks$Row", "cells", "[I", true)
  | 1 => ("SpaceLinks$Row", "start", "I", false)
  | _ => ("SpaceLinks$Row", "count", "I", false)
def tyX7 : Nat → FieldType := fun k => match k with
  | 0 => .array .int
  | 1 => .int
  | _ => .int
abbrev wsX70 : List Cond := u_ws RX7 TX7 3
theorem nmX7 : ∀ a, a < 3 → ∀ b, b < 3 → a ≠ b → (TX7 a).2.1 ≠ (TX7 b).2.1 := by decide +kernel
theorem tyX7_ok : ∀ k, k < 3 → parseFieldDescriptor (TX7 k).2.2.1 = some (tyX7 k) := by decide +kernel
abbrev cX7_init : ByteArray := prog_9_method_1_code
def yX7_init : MethodName := ⟨RX7, "<init>", "(I)V"⟩
abbrev cX7_copyFrom : ByteArray := prog_9_method_2_code
def yX7_copyFrom : MethodName := ⟨RX7, "copyFrom", "(LSpaceLinks$Row;)V"⟩
abbrev cX7_at : ByteArray := prog_9_method_3_code
def yX7_at : MethodName := ⟨RX7, "at", "(I)I"⟩
abbrev cX7_add : ByteArray := prog_9_method_4_code
def yX7_add : MethodName := ⟨RX7, "add", "(I)V"⟩
abbrev cX7_take : ByteArray := prog_9_method_5_code
def yX7_take : MethodName := ⟨RX7, "take", "()I"⟩
abbrev cX7_dropPacket : ByteArray := prog_9_method_6_code
def yX7_dropPacket : MethodName := ⟨RX7, "dropPacket", "()V"⟩
def RX8 : String := "SpaceLinks$Side"
def TX8 : u_T := fun k => match k with
  | 0 => ("SpaceLinks$Side", "buffer", "LSpaceLinks$Row;", true)
  | 1 => ("SpaceLinks$Side", "state", "I", false)
  | 2 => ("SpaceLinks$Side", "age", "I", false)
  | 3 => ("SpaceLinks$Side", "quiet", "I", false)
  | 4 => ("SpaceLinks$Side", "other", "I", false)
  | 5 => ("SpaceLinks$Side", "whole", "Z", false)
  | 6 => ("SpaceLinks$Side", "on", "Z", false)
  | 7 => ("SpaceLinks$Side", "bought", "I", false)
  | 8 => ("SpaceLinks$Side", "sold", "I", false)
  | 9 => ("SpaceLinks$Side", "sent", "I", false)
  | 10 => ("SpaceLinks$Side", "timeToSend", "I", false)
  | 11 => ("SpaceLinks$Side", "owes", "Z", false)
  | 12 => ("SpaceLinks$Side", "answered", "Z", false)
  | 13 => ("SpaceLinks$Side", "cameOpen", "Z", false)
  | 14 => ("SpaceLinks$Side", "sentOpen", "Z", false)
  | 15 => ("SpaceLinks$Side", "fell", "I", false)
  | 16 => ("SpaceLinks$Side", "silent", "I", false)
  | 17 => ("SpaceLinks$Side", "spoiled", "I", false)
  | 18 => ("SpaceLinks$Side", "dataSent", "I", false)
  | _ => ("SpaceLinks$Side", "dataHeard", "I", false)
def tyX8 : Nat → FieldType := fun k => match k with
  | 0 => .object "SpaceLinks$Row"
  | 1 => .int
  | 2 => .int
  | 3 => .int
  | 4 => .int
  | 5 => .boolean
  | 6 => .boolean
  | 7 => .int
  | 8 => .int
  | 9 => .int
  | 10 => .int
  | 11 => .boolean
  | 12 => .boolean
  | 13 => .boolean
  | 14 => .boolean
  | 15 => .int
  | 16 => .int
  | 17 => .int
  | 18 => .int
  | _ => .int
abbrev wsX80 : List Cond := u_ws RX8 TX8 20
theorem nmX8 : ∀ a, a < 20 → ∀ b, b < 20 → a ≠ b → (TX8 a).2.1 ≠ (TX8 b).2.1 := by decide +kernel
theorem tyX8_ok : ∀ k, k < 20 → parseFieldDescriptor (TX8 k).2.2.1 = some (tyX8 k) := by decide +kernel
abbrev cX8_init : ByteArray := prog_10_method_1_code
def yX8_init : MethodName := ⟨RX8, "<init>", "()V"⟩
abbrev cX8_copyFrom : ByteArray := prog_10_method_2_code
def yX8_copyFrom : MethodName := ⟨RX8, "copyFrom", "(LSpaceLinks$Side;)V"⟩
abbrev cX8_enter : ByteArray := prog_10_method_3_code
def yX8_enter : MethodName := ⟨RX8, "enter", "(I)V"⟩
abbrev cX8_sells : ByteArray := prog_10_method_4_code
def yX8_sells : MethodName := ⟨RX8, "sells", "()Z"⟩
abbrev cX8_isPaidFor : ByteArray := prog_10_method_5_code
def yX8_isPaidFor : MethodName := ⟨RX8, "isPaidFor", "(LSpaceLinks$Side;)Z"⟩
abbrev cX8_tell : ByteArray := prog_10_method_6_code
def yX8_tell : MethodName := ⟨RX8, "tell", "(I)I"⟩
def RX9 : String := "SpaceLinks$Tape"
def TX9 : u_T := fun k => match k with
  | 0 => ("SpaceLinks$Tape", "cells", "[I", true)
  | 1 => ("SpaceLinks$Tape", "length", "I", false)
  | 2 => ("SpaceLinks$Tape", "fault", "I", false)
  | 3 => ("SpaceLinks$Tape", "place", "I", false)
  | 4 => ("SpaceLinks$Tape", "reading", "I", false)
  | 5 => ("SpaceLinks$Tape", "partners", "[I", true)
  | _ => ("SpaceLinks$Tape", "tables", "[I", true)
def tyX9 : Nat → FieldType := fun k => match k with
  | 0 => .array .int
  | 1 => .int
  | 2 => .int
  | 3 => .int
  | 4 => .int
  | 5 => .array .int
  | _ => .array .int
abbrev wsX90 : List Cond := u_ws RX9 TX9 7
theorem nmX9 : ∀ a, a < 7 → ∀ b, b < 7 → a ≠ b → (TX9 a).2.1 ≠ (TX9 b).2.1 := by decide +kernel
theorem tyX9_ok : ∀ k, k < 7 → parseFieldDescriptor (TX9 k).2.2.1 = some (tyX9 k) := by decide +kernel
abbrev cX9_init : ByteArray := prog_11_method_1_code
def yX9_init : MethodName := ⟨RX9, "<init>", "()V"⟩
abbrev cX9_add : ByteArray := prog_11_method_2_code
def yX9_add : MethodName := ⟨RX9, "add", "(I)V"⟩
abbrev cX9_at : ByteArray := prog_11_method_3_code
def yX9_at : MethodName := ⟨RX9, "at", "(I)I"⟩
abbrev cX9_read : ByteArray := prog_11_method_4_code
def yX9_read : MethodName := ⟨RX9, "read", "(LSpaceLinks$World;)I"⟩
abbrev cX9_readLine : ByteArray := prog_11_method_5_code
def yX9_readLine : MethodName := ⟨RX9, "readLine", "(LSpaceLinks$World;)Z"⟩
abbrev cX9_readCable : ByteArray := prog_11_method_6_code
def yX9_readCable : MethodName := ⟨RX9, "readCable", "(LSpaceLinks$World;)Z"⟩
abbrev cX9_readSocket : ByteArray := prog_11_method_7_code
def yX9_readSocket : MethodName := ⟨RX9, "readSocket", "(LSpaceLinks$World;I)I"⟩
abbrev cX9_readTable : ByteArray := prog_11_method_8_code
def yX9_readTable : MethodName := ⟨RX9, "readTable", "(LSpaceLinks$World;)Z"⟩
abbrev cX9_readPorts : ByteArray := prog_11_method_9_code
def yX9_readPorts : MethodName := ⟨RX9, "readPorts", "()I"⟩
abbrev cX9_readNumber : ByteArray := prog_11_method_10_code
def yX9_readNumber : MethodName := ⟨RX9, "readNumber", "(II)I"⟩
abbrev cX9_takesWord : ByteArray := prog_11_method_11_code
def yX9_takesWord : MethodName := ⟨RX9, "takesWord", "(Ljava/lang/String;)Z"⟩
abbrev cX9_takesSign : ByteArray := prog_11_method_12_code
def yX9_takesSign : MethodName := ⟨RX9, "takesSign", "(C)Z"⟩
abbrev cX9_skipBlanks : ByteArray := prog_11_method_13_code
def yX9_skipBlanks : MethodName := ⟨RX9, "skipBlanks", "()V"⟩
abbrev cX9_fails : ByteArray := prog_11_method_14_code
def yX9_fails : MethodName := ⟨RX9, "fails", "(II)Z"⟩
abbrev cX9_isDigit : ByteArray := prog_11_method_15_code
def yX9_isDigit : MethodName := ⟨RX9, "isDigit", "(I)Z"⟩
abbrev cX9_isLetter : ByteArray := prog_11_method_16_code
def yX9_isLetter : MethodName := ⟨RX9, "isLetter", "(I)Z"⟩
def RX10 : String := "SpaceLinks$World"
def TX10 : u_T := fun k => match k with
  | 0 => ("SpaceLinks$World", "sides", "[LSpaceLinks$Side;", true)
  | 1 => ("SpaceLinks$World", "inputs", "[LSpaceLinks$Input;", true)
  | 2 => ("SpaceLinks$World", "routers", "[LSpaceLinks$Router;", true)
  | 3 => ("SpaceLinks$World", "ends", "[LSpaceLinks$End;", true)
  | 4 => ("SpaceLinks$World", "log", "LSpaceLinks$Log;", true)
  | 5 => ("SpaceLinks$World", "sentKinds", "[I", true)
  | 6 => ("SpaceLinks$World", "tick", "I", false)
  | 7 => ("SpaceLinks$World", "watch", "I", false)
  | 8 => ("SpaceLinks$World", "odds", "I", false)
  | _ => ("SpaceLinks$World", "draws", "I", false)
def tyX10 : Nat → FieldType := fun k => match k with
  | 0 => .array (.object "SpaceLinks$Side")
  | 1 => .array (.object "SpaceLinks$Input")
  | 2 => .array (.object "SpaceLinks$Router")
  | 3 => .array (.object "SpaceLinks$End")
  | 4 => .object "SpaceLinks$Log"
  | 5 => .array .int
  | 6 => .int
  | 7 => .int
  | 8 => .int
  | _ => .int
abbrev wsX100 : List Cond := u_ws RX10 TX10 10
theorem nmX10 : ∀ a, a < 10 → ∀ b, b < 10 → a ≠ b → (TX10 a).2.1 ≠ (TX10 b).2.1 := by decide +kernel
theorem tyX10_ok : ∀ k, k < 10 → parseFieldDescriptor (TX10 k).2.2.1 = some (tyX10 k) := by decide +kernel
abbrev cX10_init : ByteArray := prog_12_method_1_code
def yX10_init : MethodName := ⟨RX10, "<init>", "()V"⟩
abbrev cX10_copyFrom : ByteArray := prog_12_method_2_code
def yX10_copyFrom : MethodName := ⟨RX10, "copyFrom", "(LSpaceLinks$World;)V"⟩
abbrev cX10_lay : ByteArray := prog_12_method_3_code
def yX10_lay : MethodName := ⟨RX10, "lay", "(II)V"⟩
abbrev cX10_part : ByteArray := prog_12_method_4_code
def yX10_part : MethodName := ⟨RX10, "part", "(I)I"⟩
abbrev cX10_settle : ByteArray := prog_12_method_5_code
def yX10_settle : MethodName := ⟨RX10, "settle", "(I)V"⟩
abbrev cX10_leave : ByteArray := prog_12_method_6_code
def yX10_leave : MethodName := ⟨RX10, "leave", "(II)V"⟩
abbrev cX10_step : ByteArray := prog_12_method_7_code
def yX10_step : MethodName := ⟨RX10, "step", "()V"⟩
abbrev cX10_unstickSpilling : ByteArray := prog_12_method_8_code
def yX10_unstickSpilling : MethodName := ⟨RX10, "unstickSpilling", "()V"⟩
abbrev cX10_hear : ByteArray := prog_12_method_9_code
def yX10_hear : MethodName := ⟨RX10, "hear", "(I)V"⟩
abbrev cX10_draw : ByteArray := prog_12_method_10_code
def yX10_draw : MethodName := ⟨RX10, "draw", "()I"⟩
abbrev cX10_hearCredit : ByteArray := prog_12_method_11_code
def yX10_hearCredit : MethodName := ⟨RX10, "hearCredit", "(I)V"⟩
abbrev cX10_hearTime : ByteArray := prog_12_method_12_code
def yX10_hearTime : MethodName := ⟨RX10, "hearTime", "(II)V"⟩
abbrev cX10_hearData : ByteArray := prog_12_method_13_code
def yX10_hearData : MethodName := ⟨RX10, "hearData", "(II)V"⟩
abbrev cX10_grow : ByteArray := prog_12_method_14_code
def yX10_grow : MethodName := ⟨RX10, "grow", "(I)V"⟩
abbrev cX10_growOn : ByteArray := prog_12_method_15_code
def yX10_growOn : MethodName := ⟨RX10, "growOn", "(I)V"⟩
abbrev cX10_serve : ByteArray := prog_12_method_16_code
def yX10_serve : MethodName := ⟨RX10, "serve", "(LSpaceLinks$Router;I)V"⟩
abbrev cX10_begin : ByteArray := prog_12_method_17_code
def yX10_begin : MethodName := ⟨RX10, "begin", "(LSpaceLinks$Router;I)Z"⟩
abbrev cX10_openPort : ByteArray := prog_12_method_18_code
def yX10_openPort : MethodName := ⟨RX10, "openPort", "(II)I"⟩
abbrev cX10_spill : ByteArray := prog_12_method_19_code
def yX10_spill : MethodName := ⟨RX10, "spill", "(I)I"⟩
abbrev cX10_answer : ByteArray := prog_12_method_20_code
def yX10_answer : MethodName := ⟨RX10, "answer", "(LSpaceLinks$Router;IZ)V"⟩
abbrev cX10_obeys : ByteArray := prog_12_method_21_code
def yX10_obeys : MethodName := ⟨RX10, "obeys", "(LSpaceLinks$Router;I)Z"⟩
abbrev cX10_stick : ByteArray := prog_12_method_22_code
def yX10_stick : MethodName := ⟨RX10, "stick", "(I)V"⟩
abbrev cX10_takeIn : ByteArray := prog_12_method_23_code
def yX10_takeIn : MethodName := ⟨RX10, "takeIn", "(I)V"⟩
abbrev cX10_transmit : ByteArray := prog_12_method_24_code
def yX10_transmit : MethodName := ⟨RX10, "transmit", "(I)V"⟩
abbrev cX10_transmitInRun : ByteArray := prog_12_method_25_code
def yX10_transmitInRun : MethodName := ⟨RX10, "transmitInRun", "(I)V"⟩
abbrev cX10_choose : ByteArray := prog_12_method_26_code
def yX10_choose : MethodName := ⟨RX10, "choose", "(I)I"⟩
abbrev cX10_passOn : ByteArray := prog_12_method_27_code
def yX10_passOn : MethodName := ⟨RX10, "passOn", "(I)I"⟩
abbrev cX10_received : ByteArray := prog_12_method_28_code
def yX10_received : MethodName := ⟨RX10, "received", "(Z)I"⟩
abbrev cX10_total : ByteArray := prog_12_method_29_code
def yX10_total : MethodName := ⟨RX10, "total", "(I)I"⟩
abbrev cX10_baseOf : ByteArray := prog_12_method_30_code
def yX10_baseOf : MethodName := ⟨RX10, "baseOf", "(I)I"⟩
abbrev cX10_portOf : ByteArray := prog_12_method_31_code
def yX10_portOf : MethodName := ⟨RX10, "portOf", "(I)I"⟩
abbrev cX10_kindOf : ByteArray := prog_12_method_32_code
def yX10_kindOf : MethodName := ⟨RX10, "kindOf", "(I)I"⟩
def RX11 : String := "SpaceLinks"
def TX11 : u_T := fun k => match k with
  | 0 => ("SpaceLinks", "now", "LSpaceLinks$World;", true)
  | 1 => ("SpaceLinks", "tape", "LSpaceLinks$Tape;", true)
  | 2 => ("SpaceLinks", "image", "LSpaceLinks$World;", false)
  | _ => ("SpaceLinks", "thought", "LSpaceLinks$World;", false)
def tyX11 : Nat → FieldType := fun k => match k with
  | 0 => .object "SpaceLinks$World"
  | 1 => .object "SpaceLinks$Tape"
  | 2 => .object "SpaceLinks$World"
  | _ => .object "SpaceLinks$World"
abbrev wsX110 : List Cond := u_ws RX11 TX11 4
theorem nmX11 : ∀ a, a < 4 → ∀ b, b < 4 → a ≠ b → (TX11 a).2.1 ≠ (TX11 b).2.1 := by decide +kernel
theorem tyX11_ok : ∀ k, k < 4 → parseFieldDescriptor (TX11 k).2.2.1 = some (tyX11 k) := by decide +kernel
abbrev cX11_init : ByteArray := prog_1_method_1_code
def yX11_init : MethodName := ⟨RX11, "<init>", "()V"⟩
abbrev cX11_plug : ByteArray := prog_1_method_2_code
def yX11_plug : MethodName := ⟨RX11, "plug", "(II)Z"⟩
abbrev cX11_unplug : ByteArray := prog_1_method_3_code
def yX11_unplug : MethodName := ⟨RX11, "unplug", "(I)I"⟩
abbrev cX11_broken : ByteArray := prog_1_method_4_code
def yX11_broken : MethodName := ⟨RX11, "broken", "(IZ)Z"⟩
abbrev cX11_turn : ByteArray := prog_1_method_5_code
def yX11_turn : MethodName := ⟨RX11, "turn", "(IZ)Z"⟩
abbrev cX11_watch : ByteArray := prog_1_method_6_code
def yX11_watch : MethodName := ⟨RX11, "watch", "(I)Z"⟩
abbrev cX11_odds : ByteArray := prog_1_method_7_code
def yX11_odds : MethodName := ⟨RX11, "odds", "(I)Z"⟩
abbrev cX11_state : ByteArray := prog_1_method_8_code
def yX11_state : MethodName := ⟨RX11, "state", "(I)I"⟩
abbrev cX11_table : ByteArray := prog_1_method_9_code
def yX11_table : MethodName := ⟨RX11, "table", "(IIIZ)Z"⟩
abbrev cX11_hold : ByteArray := prog_1_method_10_code
def yX11_hold : MethodName := ⟨RX11, "hold", "(IZ)Z"⟩
abbrev cX11_tick : ByteArray := prog_1_method_11_code
def yX11_tick : MethodName := ⟨RX11, "tick", "(I)I"⟩
abbrev cX11_feed : ByteArray := prog_1_method_12_code
def yX11_feed : MethodName := ⟨RX11, "feed", "(IIIII)I"⟩
abbrev cX11_end : ByteArray := prog_1_method_13_code
def yX11_end : MethodName := ⟨RX11, "end", "(I)Z"⟩
abbrev cX11_send : ByteArray := prog_1_method_14_code
def yX11_send : MethodName := ⟨RX11, "send", "(I)I"⟩
abbrev cX11_text : ByteArray := prog_1_method_15_code
def yX11_text : MethodName := ⟨RX11, "text", "()I"⟩
abbrev cX11_fault : ByteArray := prog_1_method_16_code
def yX11_fault : MethodName := ⟨RX11, "fault", "(I)I"⟩
abbrev cX11_time : ByteArray := prog_1_method_17_code
def yX11_time : MethodName := ⟨RX11, "time", "(I)I"⟩
abbrev cX11_socket : ByteArray := prog_1_method_18_code
def yX11_socket : MethodName := ⟨RX11, "socket", "(II)I"⟩
abbrev cX11_buffer : ByteArray := prog_1_method_19_code
def yX11_buffer : MethodName := ⟨RX11, "buffer", "(II)I"⟩
abbrev cX11_input : ByteArray := prog_1_method_20_code
def yX11_input : MethodName := ⟨RX11, "input", "(II)I"⟩
abbrev cX11_router : ByteArray := prog_1_method_21_code
def yX11_router : MethodName := ⟨RX11, "router", "(II)I"⟩
abbrev cX11_tableOf : ByteArray := prog_1_method_22_code
def yX11_tableOf : MethodName := ⟨RX11, "tableOf", "(II)I"⟩
abbrev cX11_endOf : ByteArray := prog_1_method_23_code
def yX11_endOf : MethodName := ⟨RX11, "endOf", "(II)I"⟩
abbrev cX11_packet : ByteArray := prog_1_method_24_code
def yX11_packet : MethodName := ⟨RX11, "packet", "(III)I"⟩
abbrev cX11_byteOf : ByteArray := prog_1_method_25_code
def yX11_byteOf : MethodName := ⟨RX11, "byteOf", "(III)I"⟩
abbrev cX11_way : ByteArray := prog_1_method_26_code
def yX11_way : MethodName := ⟨RX11, "way", "(III)I"⟩
abbrev cX11_spread : ByteArray := prog_1_method_27_code
def yX11_spread : MethodName := ⟨RX11, "spread", "(II)I"⟩
abbrev cX11_loops : ByteArray := prog_1_method_28_code
def yX11_loops : MethodName := ⟨RX11, "loops", "(II)I"⟩
abbrev cX11_log : ByteArray := prog_1_method_29_code
def yX11_log : MethodName := ⟨RX11, "log", "(II)I"⟩
abbrev cX11_lasts : ByteArray := prog_1_method_30_code
def yX11_lasts : MethodName := ⟨RX11, "lasts", "(II)I"⟩
abbrev cX11_sound : ByteArray := prog_1_method_31_code
def yX11_sound : MethodName := ⟨RX11, "sound", "(I)I"⟩
abbrev cX11_image : ByteArray := prog_1_method_32_code
def yX11_image : MethodName := ⟨RX11, "image", "(Z)Z"⟩
abbrev cX11_look : ByteArray := prog_1_method_33_code
def yX11_look : MethodName := ⟨RX11, "look", "(I)I"⟩
abbrev cX11_layAllTold : ByteArray := prog_1_method_34_code
def yX11_layAllTold : MethodName := ⟨RX11, "layAllTold", "()V"⟩
abbrev cX11_keptPacket : ByteArray := prog_1_method_35_code
def yX11_keptPacket : MethodName := ⟨RX11, "keptPacket", "(II)LSpaceLinks$Packet;"⟩
abbrev cX11_isSocket : ByteArray := prog_1_method_36_code
def yX11_isSocket : MethodName := ⟨RX11, "isSocket", "(I)Z"⟩
abbrev cX11_isRouter : ByteArray := prog_1_method_37_code
def yX11_isRouter : MethodName := ⟨RX11, "isRouter", "(I)Z"⟩
abbrev cX11_isEnd : ByteArray := prog_1_method_38_code
def yX11_isEnd : MethodName := ⟨RX11, "isEnd", "(I)Z"⟩
abbrev cX11_isAddress : ByteArray := prog_1_method_39_code
def yX11_isAddress : MethodName := ⟨RX11, "isAddress", "(I)Z"⟩
abbrev cX11_isPortSet : ByteArray := prog_1_method_40_code
def yX11_isPortSet : MethodName := ⟨RX11, "isPortSet", "(I)Z"⟩
abbrev cX11_bit : ByteArray := prog_1_method_41_code
def yX11_bit : MethodName := ⟨RX11, "bit", "(Z)I"⟩
def RX12 : String := "SpaceLinksModel"
def TX12 : u_T := fun k => match k with
  | 0 => ("SpaceLinksModel", "told", "I", false)
  | 1 => ("SpaceLinksModel", "now", "[I", true)
  | 2 => ("SpaceLinksModel", "aside", "[I", true)
  | 3 => ("SpaceLinksModel", "tape", "[I", true)
  | 4 => ("SpaceLinksModel", "taped", "I", false)
  | 5 => ("SpaceLinksModel", "faultKind", "I", false)
  | 6 => ("SpaceLinksModel", "faultPlace", "I", false)
  | 7 => ("SpaceLinksModel", "spot", "I", false)
  | 8 => ("SpaceLinksModel", "stop", "I", false)
  | 9 => ("SpaceLinksModel", "isWrong", "Z", false)
  | 10 => ("SpaceLinksModel", "hops", "[I", true)
  | 11 => ("SpaceLinksModel", "hasImage", "Z", false)
  | _ => ("SpaceLinksModel", "images", "[I", true)
def tyX12 : Nat → FieldType := fun k => match k with
  | 0 => .int
  | 1 => .array .int
  | 2 => .array .int
  | 3 => .array .int
  | 4 => .int
  | 5 => .int
  | 6 => .int
  | 7 => .int
  | 8 => .int
  | 9 => .boolean
  | 10 => .array .int
  | 11 => .boolean
  | _ => .array .int
abbrev wsX120 : List Cond := u_ws RX12 TX12 13
theorem nmX12 : ∀ a, a < 13 → ∀ b, b < 13 → a ≠ b → (TX12 a).2.1 ≠ (TX12 b).2.1 := by decide +kernel
theorem tyX12_ok : ∀ k, k < 13 → parseFieldDescriptor (TX12 k).2.2.1 = some (tyX12 k) := by decide +kernel
abbrev cX12_init : ByteArray := prog_14_method_1_code
def yX12_init : MethodName := ⟨RX12, "<init>", "()V"⟩
abbrev cX12_isIn : ByteArray := prog_14_method_3_code
def yX12_isIn : MethodName := ⟨RX12, "isIn", "(III)Z"⟩
abbrev cX12_at : ByteArray := prog_14_method_4_code
def yX12_at : MethodName := ⟨RX12, "at", "(II)I"⟩
abbrev cX12_puts : ByteArray := prog_14_method_5_code
def yX12_puts : MethodName := ⟨RX12, "puts", "(III)V"⟩
abbrev cX12_more : ByteArray := prog_14_method_6_code
def yX12_more : MethodName := ⟨RX12, "more", "(II)V"⟩
abbrev cX12_ofRouter : ByteArray := prog_14_method_7_code
def yX12_ofRouter : MethodName := ⟨RX12, "ofRouter", "(II)I"⟩
abbrev cX12_putsRouter : ByteArray := prog_14_method_8_code
def yX12_putsRouter : MethodName := ⟨RX12, "putsRouter", "(III)V"⟩
abbrev cX12_moreRouter : ByteArray := prog_14_method_9_code
def yX12_moreRouter : MethodName := ⟨RX12, "moreRouter", "(II)V"⟩
abbrev cX12_ofEnd : ByteArray := prog_14_method_10_code
def yX12_ofEnd : MethodName := ⟨RX12, "ofEnd", "(II)I"⟩
abbrev cX12_putsEnd : ByteArray := prog_14_method_11_code
def yX12_putsEnd : MethodName := ⟨RX12, "putsEnd", "(III)V"⟩
abbrev cX12_moreEnd : ByteArray := prog_14_method_12_code
def yX12_moreEnd : MethodName := ⟨RX12, "moreEnd", "(II)V"⟩
abbrev cX12_isSocket : ByteArray := prog_14_method_13_code
def yX12_isSocket : MethodName := ⟨RX12, "isSocket", "(I)Z"⟩
abbrev cX12_isPort : ByteArray := prog_14_method_14_code
def yX12_isPort : MethodName := ⟨RX12, "isPort", "(I)Z"⟩
abbrev cX12_isRouter : ByteArray := prog_14_method_15_code
def yX12_isRouter : MethodName := ⟨RX12, "isRouter", "(I)Z"⟩
abbrev cX12_isEnd : ByteArray := prog_14_method_16_code
def yX12_isEnd : MethodName := ⟨RX12, "isEnd", "(I)Z"⟩
abbrev cX12_otherOf : ByteArray := prog_14_method_17_code
def yX12_otherOf : MethodName := ⟨RX12, "otherOf", "(I)I"⟩
abbrev cX12_isLive : ByteArray := prog_14_method_18_code
def yX12_isLive : MethodName := ⟨RX12, "isLive", "(I)Z"⟩
abbrev cX12_copies : ByteArray := prog_14_method_19_code
def yX12_copies : MethodName := ⟨RX12, "copies", "([I[I)V"⟩
abbrev cX12_logs : ByteArray := prog_14_method_20_code
def yX12_logs : MethodName := ⟨RX12, "logs", "(II)V"⟩
abbrev cX12_draw : ByteArray := prog_14_method_21_code
def yX12_draw : MethodName := ⟨RX12, "draw", "()I"⟩
abbrev cX12_buffers : ByteArray := prog_14_method_22_code
def yX12_buffers : MethodName := ⟨RX12, "buffers", "(II)V"⟩
abbrev cX12_takes : ByteArray := prog_14_method_23_code
def yX12_takes : MethodName := ⟨RX12, "takes", "(I)I"⟩
abbrev cX12_isMark : ByteArray := prog_14_method_24_code
def yX12_isMark : MethodName := ⟨RX12, "isMark", "(I)Z"⟩
abbrev cX12_isData : ByteArray := prog_14_method_25_code
def yX12_isData : MethodName := ⟨RX12, "isData", "(I)Z"⟩
abbrev cX12_routedTo : ByteArray := prog_14_method_26_code
def yX12_routedTo : MethodName := ⟨RX12, "routedTo", "(I)I"⟩
abbrev cX12_spills : ByteArray := prog_14_method_27_code
def yX12_spills : MethodName := ⟨RX12, "spills", "(I)V"⟩
abbrev cX12_takesQueue : ByteArray := prog_14_method_28_code
def yX12_takesQueue : MethodName := ⟨RX12, "takesQueue", "(I)I"⟩
abbrev cX12_becomes : ByteArray := prog_14_method_29_code
def yX12_becomes : MethodName := ⟨RX12, "becomes", "(II)V"⟩
abbrev cX12_falls : ByteArray := prog_14_method_30_code
def yX12_falls : MethodName := ⟨RX12, "falls", "(II)V"⟩
abbrev cX12_losesQueue : ByteArray := prog_14_method_31_code
def yX12_losesQueue : MethodName := ⟨RX12, "losesQueue", "(I)V"⟩
abbrev cX12_settles : ByteArray := prog_14_method_32_code
def yX12_settles : MethodName := ⟨RX12, "settles", "(I)V"⟩
abbrev cX12_joins : ByteArray := prog_14_method_33_code
def yX12_joins : MethodName := ⟨RX12, "joins", "(II)V"⟩
abbrev cX12_plug : ByteArray := prog_14_method_34_code
def yX12_plug : MethodName := ⟨RX12, "plug", "(II)Z"⟩
abbrev cX12_unplug : ByteArray := prog_14_method_35_code
def yX12_unplug : MethodName := ⟨RX12, "unplug", "(I)I"⟩
abbrev cX12_broken : ByteArray := prog_14_method_36_code
def yX12_broken : MethodName := ⟨RX12, "broken", "(IZ)Z"⟩
abbrev cX12_turns : ByteArray := prog_14_method_37_code
def yX12_turns : MethodName := ⟨RX12, "turns", "(IZ)Z"⟩
abbrev cX12_turn : ByteArray := prog_14_method_38_code
def yX12_turn : MethodName := ⟨RX12, "turn", "(IZ)Z"⟩
abbrev cX12_watch : ByteArray := prog_14_method_39_code
def yX12_watch : MethodName := ⟨RX12, "watch", "(I)Z"⟩
abbrev cX12_odds : ByteArray := prog_14_method_40_code
def yX12_odds : MethodName := ⟨RX12, "odds", "(I)Z"⟩
abbrev cX12_state : ByteArray := prog_14_method_41_code
def yX12_state : MethodName := ⟨RX12, "state", "(I)I"⟩
abbrev cX12_isAddress : ByteArray := prog_14_method_42_code
def yX12_isAddress : MethodName := ⟨RX12, "isAddress", "(I)Z"⟩
abbrev cX12_arePorts : ByteArray := prog_14_method_43_code
def yX12_arePorts : MethodName := ⟨RX12, "arePorts", "(I)Z"⟩
abbrev cX12_tableAt : ByteArray := prog_14_method_44_code
def yX12_tableAt : MethodName := ⟨RX12, "tableAt", "(II)I"⟩
abbrev cX12_tables : ByteArray := prog_14_method_45_code
def yX12_tables : MethodName := ⟨RX12, "tables", "(IIIZ)V"⟩
abbrev cX12_table : ByteArray := prog_14_method_46_code
def yX12_table : MethodName := ⟨RX12, "table", "(IIIZ)Z"⟩
abbrev cX12_hold : ByteArray := prog_14_method_47_code
def yX12_hold : MethodName := ⟨RX12, "hold", "(IZ)Z"⟩
abbrev cX12_comesToRouter : ByteArray := prog_14_method_48_code
def yX12_comesToRouter : MethodName := ⟨RX12, "comesToRouter", "(III)V"⟩
abbrev cX12_comesToEnd : ByteArray := prog_14_method_49_code
def yX12_comesToEnd : MethodName := ⟨RX12, "comesToEnd", "(II)V"⟩
abbrev cX12_hearsData : ByteArray := prog_14_method_50_code
def yX12_hearsData : MethodName := ⟨RX12, "hearsData", "(II)V"⟩
abbrev cX12_hears : ByteArray := prog_14_method_51_code
def yX12_hears : MethodName := ⟨RX12, "hears", "(II)V"⟩
abbrev cX12_hearsAll : ByteArray := prog_14_method_52_code
def yX12_hearsAll : MethodName := ⟨RX12, "hearsAll", "()V"⟩
abbrev cX12_grows : ByteArray := prog_14_method_53_code
def yX12_grows : MethodName := ⟨RX12, "grows", "(I)V"⟩
abbrev cX12_spillsOne : ByteArray := prog_14_method_54_code
def yX12_spillsOne : MethodName := ⟨RX12, "spillsOne", "(II)V"⟩
abbrev cX12_does : ByteArray := prog_14_method_55_code
def yX12_does : MethodName := ⟨RX12, "does", "(I)Z"⟩
abbrev cX12_writes : ByteArray := prog_14_method_56_code
def yX12_writes : MethodName := ⟨RX12, "writes", "(IIII)Z"⟩
abbrev cX12_spillsAhead : ByteArray := prog_14_method_57_code
def yX12_spillsAhead : MethodName := ⟨RX12, "spillsAhead", "(I)V"⟩
abbrev cX12_isOpen : ByteArray := prog_14_method_58_code
def yX12_isOpen : MethodName := ⟨RX12, "isOpen", "(II)Z"⟩
abbrev cX12_leastOpen : ByteArray := prog_14_method_59_code
def yX12_leastOpen : MethodName := ⟨RX12, "leastOpen", "(II)I"⟩
abbrev cX12_meant : ByteArray := prog_14_method_60_code
def yX12_meant : MethodName := ⟨RX12, "meant", "(II)I"⟩
abbrev cX12_routes : ByteArray := prog_14_method_61_code
def yX12_routes : MethodName := ⟨RX12, "routes", "(II)V"⟩
abbrev cX12_watchOf : ByteArray := prog_14_method_62_code
def yX12_watchOf : MethodName := ⟨RX12, "watchOf", "()I"⟩
abbrev cX12_cuts : ByteArray := prog_14_method_63_code
def yX12_cuts : MethodName := ⟨RX12, "cuts", "(I)V"⟩
abbrev cX12_looksAt : ByteArray := prog_14_method_64_code
def yX12_looksAt : MethodName := ⟨RX12, "looksAt", "(I)V"⟩
abbrev cX12_routesAll : ByteArray := prog_14_method_65_code
def yX12_routesAll : MethodName := ⟨RX12, "routesAll", "(I)V"⟩
abbrev cX12_takesAtEnd : ByteArray := prog_14_method_66_code
def yX12_takesAtEnd : MethodName := ⟨RX12, "takesAtEnd", "(I)V"⟩
abbrev cX12_maySell : ByteArray := prog_14_method_67_code
def yX12_maySell : MethodName := ⟨RX12, "maySell", "(I)Z"⟩
abbrev cX12_sells : ByteArray := prog_14_method_68_code
def yX12_sells : MethodName := ⟨RX12, "sells", "(I)I"⟩
abbrev cX12_nextData : ByteArray := prog_14_method_69_code
def yX12_nextData : MethodName := ⟨RX12, "nextData", "(I)I"⟩
abbrev cX12_sendsInRun : ByteArray := prog_14_method_70_code
def yX12_sendsInRun : MethodName := ⟨RX12, "sendsInRun", "(I)I"⟩
abbrev cX12_sends : ByteArray := prog_14_method_71_code
def yX12_sends : MethodName := ⟨RX12, "sends", "(I)I"⟩
abbrev cX12_watches : ByteArray := prog_14_method_72_code
def yX12_watches : MethodName := ⟨RX12, "watches", "(I)V"⟩
abbrev cX12_ticks : ByteArray := prog_14_method_73_code
def yX12_ticks : MethodName := ⟨RX12, "ticks", "()V"⟩
abbrev cX12_tick : ByteArray := prog_14_method_74_code
def yX12_tick : MethodName := ⟨RX12, "tick", "(I)I"⟩
abbrev cX12_types : ByteArray := prog_14_method_75_code
def yX12_types : MethodName := ⟨RX12, "types", "(I)V"⟩
abbrev cX12_feed : ByteArray := prog_14_method_76_code
def yX12_feed : MethodName := ⟨RX12, "feed", "(IIIII)I"⟩
abbrev cX12_end : ByteArray := prog_14_method_77_code
def yX12_end : MethodName := ⟨RX12, "end", "(I)Z"⟩
abbrev cX12_queues : ByteArray := prog_14_method_78_code
def yX12_queues : MethodName := ⟨RX12, "queues", "(II)V"⟩
abbrev cX12_send : ByteArray := prog_14_method_79_code
def yX12_send : MethodName := ⟨RX12, "send", "(I)I"⟩
abbrev cX12_here : ByteArray := prog_14_method_80_code
def yX12_here : MethodName := ⟨RX12, "here", "()I"⟩
abbrev cX12_behindBlanks : ByteArray := prog_14_method_81_code
def yX12_behindBlanks : MethodName := ⟨RX12, "behindBlanks", "()I"⟩
abbrev cX12_isDigit : ByteArray := prog_14_method_82_code
def yX12_isDigit : MethodName := ⟨RX12, "isDigit", "(I)Z"⟩
abbrev cX12_errs : ByteArray := prog_14_method_83_code
def yX12_errs : MethodName := ⟨RX12, "errs", "(II)I"⟩
abbrev cX12_letters : ByteArray := prog_14_method_84_code
def yX12_letters : MethodName := ⟨RX12, "letters", "()I"⟩
abbrev cX12_takesWord : ByteArray := prog_14_method_85_code
def yX12_takesWord : MethodName := ⟨RX12, "takesWord", "(Ljava/lang/String;)Z"⟩
abbrev cX12_number : ByteArray := prog_14_method_86_code
def yX12_number : MethodName := ⟨RX12, "number", "(II)I"⟩
abbrev cX12_sign : ByteArray := prog_14_method_87_code
def yX12_sign : MethodName := ⟨RX12, "sign", "(I)V"⟩
abbrev cX12_readSocket : ByteArray := prog_14_method_88_code
def yX12_readSocket : MethodName := ⟨RX12, "readSocket", "(I)I"⟩
abbrev cX12_readCable : ByteArray := prog_14_method_89_code
def yX12_readCable : MethodName := ⟨RX12, "readCable", "()V"⟩
abbrev cX12_readTable : ByteArray := prog_14_method_90_code
def yX12_readTable : MethodName := ⟨RX12, "readTable", "()V"⟩
abbrev cX12_text : ByteArray := prog_14_method_91_code
def yX12_text : MethodName := ⟨RX12, "text", "()I"⟩
abbrev cX12_fault : ByteArray := prog_14_method_92_code
def yX12_fault : MethodName := ⟨RX12, "fault", "(I)I"⟩
abbrev cX12_time : ByteArray := prog_14_method_93_code
def yX12_time : MethodName := ⟨RX12, "time", "(I)I"⟩
abbrev cX12_socket : ByteArray := prog_14_method_94_code
def yX12_socket : MethodName := ⟨RX12, "socket", "(II)I"⟩
abbrev cX12_buffer : ByteArray := prog_14_method_95_code
def yX12_buffer : MethodName := ⟨RX12, "buffer", "(II)I"⟩
abbrev cX12_input : ByteArray := prog_14_method_96_code
def yX12_input : MethodName := ⟨RX12, "input", "(II)I"⟩
abbrev cX12_tablesOf : ByteArray := prog_14_method_97_code
def yX12_tablesOf : MethodName := ⟨RX12, "tablesOf", "(I)I"⟩
abbrev cX12_router : ByteArray := prog_14_method_98_code
def yX12_router : MethodName := ⟨RX12, "router", "(II)I"⟩
abbrev cX12_tableOf : ByteArray := prog_14_method_99_code
def yX12_tableOf : MethodName := ⟨RX12, "tableOf", "(II)I"⟩
abbrev cX12_endOf : ByteArray := prog_14_method_100_code
def yX12_endOf : MethodName := ⟨RX12, "endOf", "(II)I"⟩
abbrev cX12_packetAt : ByteArray := prog_14_method_101_code
def yX12_packetAt : MethodName := ⟨RX12, "packetAt", "(II)I"⟩
abbrev cX12_packet : ByteArray := prog_14_method_102_code
def yX12_packet : MethodName := ⟨RX12, "packet", "(III)I"⟩
abbrev cX12_byteOf : ByteArray := prog_14_method_103_code
def yX12_byteOf : MethodName := ⟨RX12, "byteOf", "(III)I"⟩
abbrev cX12_laysHops : ByteArray := prog_14_method_104_code
def yX12_laysHops : MethodName := ⟨RX12, "laysHops", "(I)V"⟩
abbrev cX12_onward : ByteArray := prog_14_method_105_code
def yX12_onward : MethodName := ⟨RX12, "onward", "(II)I"⟩
abbrev cX12_way : ByteArray := prog_14_method_106_code
def yX12_way : MethodName := ⟨RX12, "way", "(III)I"⟩
abbrev cX12_onTo : ByteArray := prog_14_method_107_code
def yX12_onTo : MethodName := ⟨RX12, "onTo", "(II)I"⟩
abbrev cX12_reaches : ByteArray := prog_14_method_108_code
def yX12_reaches : MethodName := ⟨RX12, "reaches", "(II)I"⟩
abbrev cX12_spread : ByteArray := prog_14_method_109_code
def yX12_spread : MethodName := ⟨RX12, "spread", "(II)I"⟩
abbrev cX12_loops : ByteArray := prog_14_method_110_code
def yX12_loops : MethodName := ⟨RX12, "loops", "(II)I"⟩
abbrev cX12_log : ByteArray := prog_14_method_111_code
def yX12_log : MethodName := ⟨RX12, "log", "(II)I"⟩
abbrev cX12_lasts : ByteArray := prog_14_method_112_code
def yX12_lasts : MethodName := ⟨RX12, "lasts", "(II)I"⟩
abbrev cX12_isSold : ByteArray := prog_14_method_113_code
def yX12_isSold : MethodName := ⟨RX12, "isSold", "(II)Z"⟩
abbrev cX12_sound : ByteArray := prog_14_method_114_code
def yX12_sound : MethodName := ⟨RX12, "sound", "(I)I"⟩
abbrev cX12_image : ByteArray := prog_14_method_115_code
def yX12_image : MethodName := ⟨RX12, "image", "(Z)Z"⟩
abbrev cX12_sumOf : ByteArray := prog_14_method_116_code
def yX12_sumOf : MethodName := ⟨RX12, "sumOf", "(I)I"⟩
abbrev cX12_cables : ByteArray := prog_14_method_117_code
def yX12_cables : MethodName := ⟨RX12, "cables", "(Z)I"⟩
abbrev cX12_sumOfEnds : ByteArray := prog_14_method_118_code
def yX12_sumOfEnds : MethodName := ⟨RX12, "sumOfEnds", "(I)I"⟩
abbrev cX12_running : ByteArray := prog_14_method_119_code
def yX12_running : MethodName := ⟨RX12, "running", "()I"⟩
abbrev cX12_look : ByteArray := prog_14_method_120_code
def yX12_look : MethodName := ⟨RX12, "look", "(I)I"⟩
def RJx145de : String := "java/io/Serializable"
def TJx145de : u_T := fun k => match k with
  | _ => ("", "", "", false)
def tyJx145de : Nat → FieldType := fun k => match k with
  | _ => .int
abbrev wsJx145de0 : List Cond := u_ws RJx145de TJx145de 0
theorem nmJx145de : ∀ a, a < 0 → ∀ b, b < 0 → a ≠ b → (TJx145de a).2.1 ≠ (TJx145de b).2.1 := by decide +kernel
theorem tyJx145de_ok : ∀ k, k < 0 → parseFieldDescriptor (TJx145de k).2.2.1 = some (tyJx145de k) := by decide +kernel
def RJx9f9b0 : String := "java/lang/CharSequence"
def TJx9f9b0 : u_T := fun k => match k with
  | _ => ("", "", "", false)
def tyJx9f9b0 : Nat → FieldType := fun k => match k with
  | _ => .int
abbrev wsJx9f9b00 : List Cond := u_ws RJx9f9b0 TJx9f9b0 0
theorem nmJx9f9b0 : ∀ a, a < 0 → ∀ b, b < 0 → a ≠ b → (TJx9f9b0 a).2.1 ≠ (TJx9f9b0 b).2.1 := by decide +kernel
theorem tyJx9f9b0_ok : ∀ k, k < 0 → parseFieldDescriptor (TJx9f9b0 k).2.2.1 = some (tyJx9f9b0 k) := by decide +kernel
def RJxb160c : String := "java/lang/Comparable"
def TJxb160c : u_T := fun k => match k with
  | _ => ("", "", "", false)
def tyJxb160c : Nat → FieldType := fun k => match k with
  | _ => .int
abbrev wsJxb160c0 : List Cond := u_ws RJxb160c TJxb160c 0
theorem nmJxb160c : ∀ a, a < 0 → ∀ b, b < 0 → a ≠ b → (TJxb160c a).2.1 ≠ (TJxb160c b).2.1 := by decide +kernel
theorem tyJxb160c_ok : ∀ k, k < 0 → parseFieldDescriptor (TJxb160c k).2.2.1 = some (tyJxb160c k) := by decide +kernel
def RJ9 : String := "java/lang/Math"
def TJ9 : u_T := fun k => match k with
  | _ => ("", "", "", false)
def tyJ9 : Nat → FieldType := fun k => match k with
  | _ => .int
abbrev wsJ90 : List Cond := u_ws RJ9 TJ9 0
theorem nmJ9 : ∀ a, a < 0 → ∀ b, b < 0 → a ≠ b → (TJ9 a).2.1 ≠ (TJ9 b).2.1 := by decide +kernel
theorem tyJ9_ok : ∀ k, k < 0 → parseFieldDescriptor (TJ9 k).2.2.1 = some (tyJ9 k) := by decide +kernel
abbrev cJ9_max_7cf53 : ByteArray := prog_15_method_65_code
def yJ9_max_7cf53 : MethodName := ⟨RJ9, "max", "(II)I"⟩
abbrev cJ9_min_7cf53 : ByteArray := prog_15_method_69_code
def yJ9_min_7cf53 : MethodName := ⟨RJ9, "min", "(II)I"⟩
def RJ0 : String := "java/lang/String"
def TJ0 : u_T := fun k => match k with
  | _ => ("", "", "", false)
def tyJ0 : Nat → FieldType := fun k => match k with
  | _ => .int
abbrev wsJ00 : List Cond := u_ws RJ0 TJ0 0
theorem nmJ0 : ∀ a, a < 0 → ∀ b, b < 0 → a ≠ b → (TJ0 a).2.1 ≠ (TJ0 b).2.1 := by decide +kernel
theorem tyJ0_ok : ∀ k, k < 0 → parseFieldDescriptor (TJ0 k).2.2.1 = some (tyJ0 k) := by decide +kernel
abbrev cJ0_length_8abf5 : ByteArray := prog_16_method_54_code
def yJ0_length_8abf5 : MethodName := ⟨RJ0, "length", "()I"⟩
abbrev cJ0_charAt_5068e : ByteArray := prog_16_method_56_code
def yJ0_charAt_5068e : MethodName := ⟨RJ0, "charAt", "(I)C"⟩
abbrev cJ0_coder_7d493 : ByteArray := prog_16_method_152_code
def yJ0_coder_7d493 : MethodName := ⟨RJ0, "coder", "()B"⟩
abbrev cJ0_isLatin1_aae02 : ByteArray := prog_16_method_154_code
def yJ0_isLatin1_aae02 : MethodName := ⟨RJ0, "isLatin1", "()Z"⟩
abbrev cJ0_checkIndex_df160 : ByteArray := prog_16_method_155_code
def yJ0_checkIndex_df160 : MethodName := ⟨RJ0, "checkIndex", "(II)V"⟩
def RJ1 : String := "java/lang/StringLatin1"
def TJ1 : u_T := fun k => match k with
  | _ => ("", "", "", false)
def tyJ1 : Nat → FieldType := fun k => match k with
  | _ => .int
abbrev wsJ10 : List Cond := u_ws RJ1 TJ1 0
theorem nmJ1 : ∀ a, a < 0 → ∀ b, b < 0 → a ≠ b → (TJ1 a).2.1 ≠ (TJ1 b).2.1 := by decide +kernel
theorem tyJ1_ok : ∀ k, k < 0 → parseFieldDescriptor (TJ1 k).2.2.1 = some (tyJ1 k) := by decide +kernel
abbrev cJ1_charAt_3b067 : ByteArray := prog_17_method_2_code
def yJ1_charAt_3b067 : MethodName := ⟨RJ1, "charAt", "([BI)C"⟩
def RJ2 : String := "java/lang/StringUTF16"
def TJ2 : u_T := fun k => match k with
  | _ => ("", "", "", false)
def tyJ2 : Nat → FieldType := fun k => match k with
  | _ => .int
abbrev wsJ20 : List Cond := u_ws RJ2 TJ2 0
theorem nmJ2 : ∀ a, a < 0 → ∀ b, b < 0 → a ≠ b → (TJ2 a).2.1 ≠ (TJ2 b).2.1 := by decide +kernel
theorem tyJ2_ok : ∀ k, k < 0 → parseFieldDescriptor (TJ2 k).2.2.1 = some (tyJ2 k) := by decide +kernel
abbrev cJ2_getChar_3b067 : ByteArray := prog_18_method_5_code
def yJ2_getChar_3b067 : MethodName := ⟨RJ2, "getChar", "([BI)C"⟩
abbrev cJ2_length_9d52b : ByteArray := prog_18_method_6_code
def yJ2_length_9d52b : MethodName := ⟨RJ2, "length", "([B)I"⟩
abbrev cJ2_charAt_3b067 : ByteArray := prog_18_method_83_code
def yJ2_charAt_3b067 : MethodName := ⟨RJ2, "charAt", "([BI)C"⟩
abbrev cJ2_checkIndex_2214a : ByteArray := prog_18_method_91_code
def yJ2_checkIndex_2214a : MethodName := ⟨RJ2, "checkIndex", "(I[B)V"⟩
def RJ10 : String := "java/lang/System"
def TJ10 : u_T := fun k => match k with
  | _ => ("", "", "", false)
def tyJ10 : Nat → FieldType := fun k => match k with
  | _ => .int
abbrev wsJ100 : List Cond := u_ws RJ10 TJ10 0
theorem nmJ10 : ∀ a, a < 0 → ∀ b, b < 0 → a ≠ b → (TJ10 a).2.1 ≠ (TJ10 b).2.1 := by decide +kernel
theorem tyJ10_ok : ∀ k, k < 0 → parseFieldDescriptor (TJ10 k).2.2.1 = some (tyJ10 k) := by decide +kernel
def RJxfd54e : String := "java/lang/constant/Constable"
def TJxfd54e : u_T := fun k => match k with
  | _ => ("", "", "", false)
def tyJxfd54e : Nat → FieldType := fun k => match k with
  | _ => .int
abbrev wsJxfd54e0 : List Cond := u_ws RJxfd54e TJxfd54e 0
theorem nmJxfd54e : ∀ a, a < 0 → ∀ b, b < 0 → a ≠ b → (TJxfd54e a).2.1 ≠ (TJxfd54e b).2.1 := by decide +kernel
theorem tyJxfd54e_ok : ∀ k, k < 0 → parseFieldDescriptor (TJxfd54e k).2.2.1 = some (tyJxfd54e k) := by decide +kernel
def RJx3cf43 : String := "java/lang/constant/ConstantDesc"
def TJx3cf43 : u_T := fun k => match k with
  | _ => ("", "", "", false)
def tyJx3cf43 : Nat → FieldType := fun k => match k with
  | _ => .int
abbrev wsJx3cf430 : List Cond := u_ws RJx3cf43 TJx3cf43 0
theorem nmJx3cf43 : ∀ a, a < 0 → ∀ b, b < 0 → a ≠ b → (TJx3cf43 a).2.1 ≠ (TJx3cf43 b).2.1 := by decide +kernel
theorem tyJx3cf43_ok : ∀ k, k < 0 → parseFieldDescriptor (TJx3cf43 k).2.2.1 = some (tyJx3cf43 k) := by decide +kernel
def RJ7 : String := "java/util/Arrays"
def TJ7 : u_T := fun k => match k with
  | _ => ("", "", "", false)
def tyJ7 : Nat → FieldType := fun k => match k with
  | _ => .int
abbrev wsJ70 : List Cond := u_ws RJ7 TJ7 0
theorem nmJ7 : ∀ a, a < 0 → ∀ b, b < 0 → a ≠ b → (TJ7 a).2.1 ≠ (TJ7 b).2.1 := by decide +kernel
theorem tyJ7_ok : ∀ k, k < 0 → parseFieldDescriptor (TJ7 k).2.2.1 = some (tyJ7 k) := by decide +kernel
abbrev cJ7_fill_53178 : ByteArray := prog_20_method_103_code
def yJ7_fill_53178 : MethodName := ⟨RJ7, "fill", "([II)V"⟩
def RJ3 : String := "jdk/internal/util/Preconditions"
def TJ3 : u_T := fun k => match k with
  | _ => ("", "", "", false)
def tyJ3 : Nat → FieldType := fun k => match k with
  | _ => .int
abbrev wsJ30 : List Cond := u_ws RJ3 TJ3 0
theorem nmJ3 : ∀ a, a < 0 → ∀ b, b < 0 → a ≠ b → (TJ3 a).2.1 ≠ (TJ3 b).2.1 := by decide +kernel
theorem tyJ3_ok : ∀ k, k < 0 → parseFieldDescriptor (TJ3 k).2.2.1 = some (tyJ3 k) := by decide +kernel
abbrev cJ3_checkIndex_8e157 : ByteArray := prog_21_method_11_code
def yJ3_checkIndex_8e157 : MethodName := ⟨RJ3, "checkIndex", "(IILjava/util/function/BiFunction;)I"⟩
def RL : String := "SpaceLinksLaw"
abbrev cL_law : ByteArray := code
def yL_law : MethodName := ⟨RL, "law", "([I)Z"⟩
abbrev vwCl : List vw_C := [(RX0, TX0, 3), (RX1, TX1, 8), (RX2, TX2, 7), (RX3, TX3, 4), (RX4, TX4, 4), (RX6, TX6, 10), (RX7, TX7, 3), (RX8, TX8, 20), (RX9, TX9, 7), (RX10, TX10, 10), (RX11, TX11, 4), (RX12, TX12, 13)]
end
section
/-! the checker's domain: what a value may be -/
abbrev rk_AV : Type := Nat × Int × Int
def rk_toI (v : Value) : Int := match v with
  | .int x => x.toInt
  | _ => 0
/-- 0 an int in [a, b]; 1 a counter, 0 .. X + a; 2 a cell of kind a; 3 null or a cell of kind a; else anything of one slot -/
def rk_has (G : Nat → Option Nat) (X : Int) (t : rk_AV) (v : Value) : Prop := match t with
  | (0, a, b) => ∃ x : Int32, v = .int x ∧ a ≤ x.toInt ∧ x.toInt ≤ b
  | (1, a, _) => ∃ x : Int32, v = .int x ∧ 0 ≤ x.toInt ∧ x.toInt ≤ X + a
  | (2, k, _) => ∃ a : Nat, v = .ref a ∧ G a = some k.toNat
  | (3, k, _) => v = .null ∨ ∃ a : Nat, v = .ref a ∧ G a = some k.toNat
  | _ => v = .null ∨ (∃ a : Nat, v = .ref a) ∨ ∃ x : Int32, v = .int x
def rk_le (t u : rk_AV) : Bool := match u with
  | (0, c, d) => (match t with
    | (0, a, b) => decide (c ≤ a) && decide (b ≤ d)
    | (1, _, _) => decide (c ≤ 0) && decide (2147483647 ≤ d)
    | _ => false)
  | (1, c, _) => (match t with
    | (0, a, b) => decide (0 ≤ a) && decide (b ≤ c)
    | (1, a, _) => decide (a ≤ c)
    | _ => false)
  | (2, k, _) => (match t with
    | (2, j, _) => decide (j = k)
    | _ => false)
  | (3, k, _) => (match t with
    | (2, j, _) => decide (j = k)
    | (3, j, _) => decide (j = k)
    | _ => false)
  | _ => true
theorem rk_i_lo (x : Int32) : -2147483648 ≤ x.toInt := by
  have h := Int32.le_toInt x
  simpa using h
theorem rk_i_hi (x : Int32) : x.toInt ≤ 2147483647 := by
  have h := Int32.toInt_lt x
  omega
theorem rk_has_cat {G : Nat → Option Nat} {X : Int} {t : rk_AV} {v : Value} (h : rk_has G X t v) : v.category = 1 := by
  obtain ⟨n, a, b⟩ := t
  rcases n with _ | _ | _ | _ | n
  · obtain ⟨x, rfl, -⟩ := h; rfl
  · obtain ⟨x, rfl, -⟩ := h; rfl
  · obtain ⟨x, rfl, -⟩ := h; rfl
  · rcases h with rfl | ⟨x, rfl, -⟩ <;> rfl
  · rcases h with rfl | ⟨x, rfl⟩ | ⟨x, rfl⟩ <;> rfl
theorem rk_has_any {G : Nat → Option Nat} {X : Int} {t : rk_AV} {v : Value} (h : rk_has G X t v) : v = .null ∨ (∃ a : Nat, v = .ref a) ∨ ∃ x : Int32, v = .int x := by
  obtain ⟨n, a, b⟩ := t
  rcases n with _ | _ | _ | _ | n
  · obtain ⟨x, rfl, -⟩ := h; exact Or.inr (Or.inr ⟨_, rfl⟩)
  · obtain ⟨x, rfl, -⟩ := h; exact Or.inr (Or.inr ⟨_, rfl⟩)
  · obtain ⟨x, rfl, -⟩ := h; exact Or.inr (Or.inl ⟨_, rfl⟩)
  · rcases h with rfl | ⟨x, rfl, -⟩
    · exact Or.inl rfl
    · exact Or.inr (Or.inl ⟨_, rfl⟩)
  · exact h
theorem rk_le_ok {G : Nat → Option Nat} {X : Int} {t u : rk_AV} {v : Value} (hX : 0 ≤ X) (h : rk_le t u = true) (hv : rk_has G X t v) : rk_has G X u v := by
  obtain ⟨m, c, d⟩ := u
  have hany := rk_has_any hv
  obtain ⟨n, a, b⟩ := t
  rcases m with _ | _ | _ | _ | m
  · rcases n with _ | _ | n
    · simp only [rk_le, Bool.and_eq_true, decide_eq_true_eq] at h
      obtain ⟨x, rfl, h1, h2⟩ := hv
      exact ⟨x, rfl, by omega, by omega⟩
    · simp only [rk_le, Bool.and_eq_true, decide_eq_true_eq] at h
      obtain ⟨x, rfl, h1, h2⟩ := hv
      have := rk_i_hi x
      exact ⟨x, rfl, by omega, by omega⟩
    · simp [rk_le] at h
  · rcases n with _ | _ | n
    · simp only [rk_le, Bool.and_eq_true, decide_eq_true_eq] at h
      obtain ⟨x, rfl, h1, h2⟩ := hv
      exact ⟨x, rfl, by omega, by omega⟩
    · simp only [rk_le, decide_eq_true_eq] at h
      obtain ⟨x, rfl, h1, h2⟩ := hv
      exact ⟨x, rfl, by omega, by omega⟩
    · simp [rk_le] at h
  · rcases n with _ | _ | _ | n
    · simp [rk_le] at h
    · simp [rk_le] at h
    · simp only [rk_le, decide_eq_true_eq] at h
      subst h
      exact hv
    · simp [rk_le] at h
  · rcases n with _ | _ | _ | _ | n
    · simp [rk_le] at h
    · simp [rk_le] at h
    · simp only [rk_le, decide_eq_true_eq] at h
      subst h
      exact Or.inr hv
    · simp only [rk_le, decide_eq_true_eq] at h
      subst h
      exact hv
    · simp [rk_le] at h
  · exact hany
theorem rk_has_X {G : Nat → Option Nat} {X Y : Int} {t : rk_AV} {v : Value} (hXY : X ≤ Y) (h : rk_has G X t v) : rk_has G Y t v := by
  obtain ⟨n, a, b⟩ := t
  rcases n with _ | _ | _ | _ | n
  · exact h
  · obtain ⟨x, rfl, h1, h2⟩ := h
    exact ⟨x, rfl, h1, by omega⟩
  · exact h
  · exact h
  · exact h
theorem rk_has_G {G G2 : Nat → Option Nat} {X : Int} {t : rk_AV} {v : Value} (hG : ∀ a k, G a = some k → G2 a = some k) (h : rk_has G X t v) : rk_has G2 X t v := by
  obtain ⟨n, a, b⟩ := t
  rcases n with _ | _ | _ | _ | n
  · exact h
  · exact h
  · obtain ⟨x, rfl, h1⟩ := h
    exact ⟨x, rfl, hG _ _ h1⟩
  · rcases h with rfl | ⟨x, rfl, h1⟩
    · exact Or.inl rfl
    · exact Or.inr ⟨x, rfl, hG _ _ h1⟩
  · exact h
/-- as an int -/
def rk_iv (t : rk_AV) : Option (Int × Int) := match t with
  | (0, a, b) => some (a, b)
  | (1, _, _) => some (0, 2147483647)
  | _ => none
theorem rk_iv_ok {G : Nat → Option Nat} {X : Int} {t : rk_AV} {v : Value} {a b : Int} (h : rk_iv t = some (a, b)) (hv : rk_has G X t v) : ∃ x : Int32, v = .int x ∧ a ≤ x.toInt ∧ x.toInt ≤ b := by
  obtain ⟨n, c, d⟩ := t
  rcases n with _ | _ | n
  · simp only [rk_iv, Option.some.injEq, Prod.mk.injEq] at h
    obtain ⟨rfl, rfl⟩ := h
    exact hv
  · simp only [rk_iv, Option.some.injEq, Prod.mk.injEq] at h
    obtain ⟨rfl, rfl⟩ := h
    obtain ⟨x, rfl, h1, h2⟩ := hv
    exact ⟨x, rfl, h1, rk_i_hi x⟩
  · simp [rk_iv] at h
def rk_full : rk_AV := (0, -2147483648, 2147483647)
def rk_fit (a b : Int) : rk_AV := if -2147483648 ≤ a ∧ b ≤ 2147483647 then (0, a, b) else rk_full
theorem rk_full_ok {G : Nat → Option Nat} {X : Int} (x : Int32) : rk_has G X rk_full (.int x) := ⟨x, rfl, rk_i_lo x, rk_i_hi x⟩
/-- a whole number that fits is what the machine has -/
theorem rk_bmod {n : Int} (h1 : -2147483648 ≤ n) (h2 : n ≤ 2147483647) : n.bmod (2 ^ 32) = n := by
  rw [Int.bmod_eq_of_le] <;> omega
theorem rk_add_e {x y : Int32} (h1 : -2147483648 ≤ x.toInt + y.toInt) (h2 : x.toInt + y.toInt ≤ 2147483647) : (x + y).toInt = x.toInt + y.toInt := by
  rw [Int32.toInt_add, rk_bmod h1 h2]
theorem rk_sub_e {x y : Int32} (h1 : -2147483648 ≤ x.toInt - y.toInt) (h2 : x.toInt - y.toInt ≤ 2147483647) : (x - y).toInt = x.toInt - y.toInt := by
  rw [Int32.toInt_sub, rk_bmod h1 h2]
theorem rk_mul_e {x y : Int32} (h1 : -2147483648 ≤ x.toInt * y.toInt) (h2 : x.toInt * y.toInt ≤ 2147483647) : (x * y).toInt = x.toInt * y.toInt := by
  rw [Int32.toInt_mul, rk_bmod h1 h2]
theorem rk_nI {x : Int32} (h : 0 ≤ x.toInt) : ∃ n : Nat, x = nI n ∧ x.toInt = (n : Int) ∧ n < 2 ^ 31 := by
  have h2 := rk_i_hi x
  refine ⟨x.toInt.toNat, ?_, by omega, by omega⟩
  apply Int32.toInt_inj.mp
  rw [nI_toInt (by omega)]
  omega
theorem rk_div_e {x y : Int32} (h1 : 0 ≤ x.toInt) (h2 : 0 < y.toInt) : (x / y).toInt = x.toInt / y.toInt := by
  obtain ⟨a, rfl, e1, l1⟩ := rk_nI h1
  obtain ⟨b, rfl, e2, l2⟩ := rk_nI (Int.le_of_lt h2)
  rw [pk_div l1 (by omega) l2, e1, e2, nI_toInt (by
    have := Nat.div_le_self a b
    omega)]
  exact Int.natCast_ediv a b
theorem rk_rem_e {x y : Int32} (h1 : 0 ≤ x.toInt) (h2 : 0 < y.toInt) : (x - x / y * y).toInt = x.toInt % y.toInt := by
  obtain ⟨a, rfl, e1, l1⟩ := rk_nI h1
  obtain ⟨b, rfl, e2, l2⟩ := rk_nI (Int.le_of_lt h2)
  rw [pk_rem l1 (by omega) l2, e1, e2, nI_toInt (by
    have := Nat.mod_le a b
    omega)]
  exact Int.natCast_emod a b
theorem rk_and_r {x y : Int32} (h : 0 ≤ y.toInt) : 0 ≤ (x &&& y).toInt ∧ (x &&& y).toInt ≤ y.toInt := by
  obtain ⟨b, rfl, e2, l2⟩ := rk_nI h
  have hb : (nI b).toBitVec.toNat = b := pk_tn (by omega)
  have h1 : (x &&& nI b).toBitVec.toNat ≤ b := by
    rw [Int32.toBitVec_and, BitVec.toNat_and, hb]
    exact Nat.and_le_right
  have h2 : (x &&& nI b).toInt = ((x &&& nI b).toBitVec.toNat : Int) := by
    show (x &&& nI b).toBitVec.toInt = _
    rw [BitVec.toInt_eq_toNat_cond, if_pos (by omega)]
  rw [h2, e2]
  omega
theorem rk_and_c (x y : Int32) : x &&& y = y &&& x := by
  apply Int32.toBitVec_inj.mp
  rw [Int32.toBitVec_and, Int32.toBitVec_and, BitVec.and_comm]
theorem rk_and_l {x y : Int32} (h : 0 ≤ x.toInt) : 0 ≤ (x &&& y).toInt ∧ (x &&& y).toInt ≤ x.toInt := by
  rw [rk_and_c]
  exact rk_and_r h
theorem rk_ushr8 (x : Int32) : 0 ≤ (x.toUInt32 >>> ((8 : Int32).toUInt32 &&& Int32.toUInt32 31)).toInt32.toInt ∧ (x.toUInt32 >>> ((8 : Int32).toUInt32 &&& Int32.toUInt32 31)).toInt32.toInt ≤ 16777215 := by
  have h := pk_ushr x 8 8 (by decide)
  have hx : x.toBitVec.toNat < 2 ^ 32 := x.toBitVec.isLt
  generalize (x.toUInt32 >>> ((8 : Int32).toUInt32 &&& Int32.toUInt32 31)).toInt32 = z at h ⊢
  have h2 : z.toInt = (z.toBitVec.toNat : Int) := by
    show z.toBitVec.toInt = _
    rw [BitVec.toInt_eq_toNat_cond, if_pos (by omega)]
  rw [h2, h]
  omega
end
section
/-! typed worlds: a kind for each address; the cells of a kind -/
abbrev rk_KD : Type := Nat × Nat × Nat × List rk_AV
/-- (0, ci, _, types): an object of class ci; (1, n, _, _): n ints; (2, n, t0, _): n references, of the array class number t0 -/
def rk_cell (K : Nat → rk_KD) (E : Nat → Nat → rk_AV) (tys : List (ClassId × FieldType)) (G : Nat → Option Nat) (X : Int) (k : Nat) (e : va_E) : Prop := match K k with
  | (0, ci, _, ts) => ∃ fs : List Value, e = .inr (ci, fs) ∧ fs.length = ts.length ∧ ∀ (i : Nat) (t : rk_AV) (v : Value), ts[i]? = some t → fs[i]? = some v → rk_has G X t v
  | (1, n, _, _) => ∃ (cA : ClassId) (g : Nat → Int32), e = .inl (cA, n, .inl g) ∧ tys[0]? = some (cA, .int) ∧ ∀ i, i < n → rk_has G X (E k i) (.int (g i))
  | (_, n, t0, _) => ∃ (cA : ClassId) (C : String) (g : Nat → Option Nat), e = .inl (cA, n, .inr (.inr (.inr (.inr g)))) ∧ tys[t0]? = some (cA, .object C) ∧ ∀ i, i < n → rk_has G X (E k i) (va_rf (g i))
def rk_TY (K : Nat → rk_KD) (E : Nat → Nat → rk_AV) (tys : List (ClassId × FieldType)) (G : Nat → Option Nat) (X : Int) (L : List Nat) (f : Nat → va_E) : Prop := (∀ a k, G a = some k → (K k).1 ≠ 9 → a ∈ L ∧ rk_cell K E tys G X k (f a)) ∧ ∀ a k, (K k).1 = 9 → (G a = some k ↔ (E k 0).2.1 = (a : Int))
theorem rk_cell_X {K : Nat → rk_KD} {E : Nat → Nat → rk_AV} {tys : List (ClassId × FieldType)} {G : Nat → Option Nat} {X Y : Int} {k : Nat} {e : va_E} (h : X ≤ Y) (hc : rk_cell K E tys G X k e) : rk_cell K E tys G Y k e := by
  unfold rk_cell at hc ⊢
  generalize K k = kd at hc ⊢
  obtain ⟨n, ci, t0, ts⟩ := kd
  rcases n with _ | _ | n
  · obtain ⟨fs, h1, h2, h3⟩ := hc
    exact ⟨fs, h1, h2, fun i t v a b => rk_has_X h (h3 i t v a b)⟩
  · obtain ⟨cA, g, h1, h2, h3⟩ := hc
    exact ⟨cA, g, h1, h2, fun i hi => rk_has_X h (h3 i hi)⟩
  · obtain ⟨cA, C, g, h1, h2, h3⟩ := hc
    exact ⟨cA, C, g, h1, h2, fun i hi => rk_has_X h (h3 i hi)⟩
theorem rk_TY_X {K : Nat → rk_KD} {E : Nat → Nat → rk_AV} {tys : List (ClassId × FieldType)} {G : Nat → Option Nat} {X Y : Int} {L : List Nat} {f : Nat → va_E} (h : X ≤ Y) (hc : rk_TY K E tys G X L f) : rk_TY K E tys G Y L f := ⟨fun a k ha hk => ⟨(hc.1 a k ha hk).1, rk_cell_X h (hc.1 a k ha hk).2⟩, hc.2⟩
theorem rk_TY_up {K : Nat → rk_KD} {E : Nat → Nat → rk_AV} {tys : List (ClassId × FieldType)} {G : Nat → Option Nat} {X : Int} {L : List Nat} {f : Nat → va_E} {a k : Nat} {e : va_E} (hc : rk_TY K E tys G X L f) (ha : G a = some k) (he : rk_cell K E tys G X k e) : rk_TY K E tys G X L (va_up f a e) := by
  refine ⟨fun b j hb hj => ?_, hc.2⟩
  refine ⟨(hc.1 b j hb hj).1, ?_⟩
  by_cases hba : b = a
  · subst hba
    rw [hb] at ha
    cases ha
    rw [va_up_self]
    exact he
  · rw [va_up_ne _ _ hba]
    exact (hc.1 b j hb hj).2
/-! the symbolic state: locals, stack, what each symbol may be, known fields, facts, cost -/
abbrev rk_St : Type := List (Nat × Nat) × List Nat × List rk_AV × List (Nat × Nat × Nat) × List (Nat × Nat × Nat × Int) × Int
def rk_fld (e : va_E) (i : Nat) : Option Value := match e with
  | .inr o => o.2[i]?
  | .inl _ => none
/-- what stands in a row, at a place -/
def rk_elt (e : va_E) (v : Value) : Option Value := match e with
  | .inl (_, _, .inl g) => (match v with
    | .int i => some (.int (g i.toNatClampNeg))
    | _ => none)
  | .inl (_, _, .inr (.inr (.inr (.inr g)))) => (match v with
    | .int i => some (va_rf (g i.toNatClampNeg))
    | _ => none)
  | _ => none
/-- a known field, or (from 1000000 on) a known place of a row -/
def rk_kf (r : Nat → Value) (e : va_E) (i : Nat) : Option Value := if i < 1000000 then rk_fld e i else rk_elt e (r (i - 1000000))
def rk_fact (r : Nat → Value) (q : Nat × Nat × Nat × Int) : Prop := match q with
  | (0, y, x, c) => rk_toI (r y) = rk_toI (r x) + c
  | (1, x, y, _) => rk_toI (r x) < rk_toI (r y)
  | (2, y, x, c) => rk_toI (r y) = rk_toI (r x) % c
  | (3, z, x, y) => ∃ a b : Int32, r x = .int a ∧ r y.toNat = .int b ∧ r z = .int (a + b)
  | _ => True
/-- the fixed things of a walk: what is wanted of the cells (in a method that changes none), kinds, layouts, array classes, class numbers, classes, what may change, the start's heap, the typing, the cells, the locals' number, the counters' bound at the start -/
abbrev rk_Fx : Type := ((Nat → va_E) → Prop) × (Nat → rk_KD) × (Nat → Nat → rk_AV) × List (ClassId × FieldType) × va_G × (Nat → Prop) × Heap × (Nat → Option Nat) × List Nat × Nat × Int
def rk_w (F : rk_Fx) (co : Int) (f : Nat → va_E) (H : Heap) (locs : List Loc) : Prop := match F with
  | (Pf, K, E, tys, D, A, H0, G, L, _, X) => va_P D vwCl (va_pl L f) H ∧ va_D A (va_pl L f) ∧ va_S A H0 H locs ∧ rk_TY K E tys G (X + co) L f ∧ Pf f
abbrev rk_fG (F : rk_Fx) : Nat → Option Nat := F.2.2.2.2.2.2.2.1
abbrev rk_fn (F : rk_Fx) : Nat := F.2.2.2.2.2.2.2.2.2.1
abbrev rk_fX (F : rk_Fx) : Int := F.2.2.2.2.2.2.2.2.2.2
def rk_on (F : rk_Fx) (nE : Nat) (r0 r : Nat → Value) (S : rk_St) (f : Nat → va_E) (H : Heap) (locs : List Loc) (ls : Array Slot) (st : List Value) : Prop := match S with
  | (lo, sk, en, kn, fc, co) =>
    (∀ y t, en[y]? = some t → rk_has (rk_fG F) (rk_fX F + co) t (r y)) ∧ (∀ q ∈ kn, ∃ a, r q.1 = .ref a ∧ rk_kf r (f a) q.2.1 = some (r q.2.2)) ∧ (∀ q ∈ fc, rk_fact r q) ∧
    lv_has ls (rk_fn F) (lo.map fun q => (q.1, r q.2)) ∧ st = sk.map r ∧ (∀ y, y < nE → r y = r0 y) ∧ (0 ≤ co ∧ co ≤ 10000000) ∧ rk_w F co f H locs
def rk_wf (nE : Nat) (S : rk_St) : Bool := match S with
  | (lo, sk, en, kn, fc, _) =>
    let n := en.length
    Nat.ble nE n && (lo.all (fun q => Nat.blt q.2 n) && (sk.all (fun y => Nat.blt y n) && (kn.all (fun q => Nat.blt q.1 n && (Nat.blt q.2.2 n && Nat.blt q.2.1 (1000000 + n))) && fc.all (fun q => Nat.blt q.2.1 n && (Nat.blt q.2.2.1 n && (Nat.blt q.2.2.2.toNat n || !(Nat.beq q.1 3)))))))
section RKP
variable {F : rk_Fx} {nE : Nat} {r0 r : Nat → Value} {lo : List (Nat × Nat)} {sk : List Nat} {en : List rk_AV} {kn : List (Nat × Nat × Nat)} {fc : List (Nat × Nat × Nat × Int)} {co : Int} {f : Nat → va_E} {H : Heap} {locs : List Loc} {ls : Array Slot} {st : List Value}
theorem rk_fact_eq {r r' : Nat → Value} {q : Nat × Nat × Nat × Int} (h1 : r' q.2.1 = r q.2.1) (h2 : r' q.2.2.1 = r q.2.2.1) (h3 : q.1 = 3 → r' q.2.2.2.toNat = r q.2.2.2.toNat) (h : rk_fact r q) : rk_fact r' q := by
  obtain ⟨n, x, y, c⟩ := q
  dsimp only at h1 h2 h3
  rcases n with _ | _ | _ | _ | n
  · simp only [rk_fact] at h ⊢; rw [h1, h2]; exact h
  · simp only [rk_fact] at h ⊢; rw [h1, h2]; exact h
  · simp only [rk_fact] at h ⊢; rw [h1, h2]; exact h
  · simp only [rk_fact] at h ⊢; rw [h1, h2, h3 rfl]; exact h
  · trivial
/-- a new symbol may be anything -/
theorem rk_fresh (h : rk_on F nE r0 r (lo, sk, en, kn, fc, co) f H locs ls st) (hw : rk_wf nE (lo, sk, en, kn, fc, co) = true) (v : Value) : ∃ r' : Nat → Value, r' en.length = v ∧ (∀ y, y < en.length → r' y = r y) ∧ rk_on F nE r0 r' (lo, sk, en, kn, fc, co) f H locs ls st := by
  obtain ⟨h1, h2, h3, h4, h5, h6, h7, h8⟩ := h
  simp only [rk_wf, Bool.and_eq_true, Bool.or_eq_true, List.all_eq_true, Nat.blt_eq, Nat.ble_eq] at hw
  obtain ⟨w0, w1, w2, w3, w4⟩ := hw
  obtain ⟨r', e0, e⟩ : ∃ r' : Nat → Value, r' en.length = v ∧ ∀ y, y < en.length → r' y = r y := ⟨fun z => if z = en.length then v else r z, if_pos rfl, fun y hy => if_neg (by omega)⟩
  refine ⟨r', e0, e, ?_, ?_, ?_, ?_, ?_, ?_, h7, h8⟩
  · intro y t ht
    rw [e y (List.getElem?_eq_some_iff.mp ht).1]
    exact h1 y t ht
  · intro q hq
    obtain ⟨a, e1, e2⟩ := h2 q hq
    have := w3 q hq
    refine ⟨a, ?_, ?_⟩
    · rw [e _ this.1]; exact e1
    · rw [e _ this.2.1]
      unfold rk_kf at e2 ⊢
      split
      · rename_i hi
        rw [if_pos hi] at e2
        exact e2
      · rename_i hi
        rw [if_neg hi] at e2
        rw [e _ (by omega)]
        exact e2
  · intro q hq
    have := w4 q hq
    exact rk_fact_eq (e _ this.1) (e _ this.2.1) (fun h9 => e _ (by
      rcases this.2.2 with h8 | h8
      · exact h8
      · rw [h9] at h8
        simp at h8)) (h3 q hq)
  · have : (lo.map fun q => (q.1, r' q.2)) = lo.map fun q => (q.1, r q.2) := by
      apply List.map_congr_left
      intro q hq
      rw [e _ (w1 q hq)]
    rw [this]
    exact h4
  · rw [h5]
    apply List.map_congr_left
    intro y hy
    rw [e _ (w2 y hy)]
  · intro y hy
    rw [e _ (by omega)]
    exact h6 y hy
/-- the new symbol enters -/
theorem rk_enter {t : rk_AV} (h : rk_on F nE r0 r (lo, sk, en, kn, fc, co) f H locs ls st) (ht : rk_has (rk_fG F) (rk_fX F + co) t (r en.length)) : rk_on F nE r0 r (lo, sk, en ++ [t], kn, fc, co) f H locs ls st := by
  obtain ⟨h1, h⟩ := h
  refine ⟨fun y u hu => ?_, h⟩
  by_cases hy : y < en.length
  · rw [List.getElem?_append_left hy] at hu
    exact h1 y u hu
  · rw [List.getElem?_append_right (by omega)] at hu
    have hz : y - en.length < 1 := (List.getElem?_eq_some_iff.mp hu).1
    have : y = en.length := by omega
    subst this
    rw [Nat.sub_self] at hu
    cases hu
    exact ht
theorem rk_push (y : Nat) (h : rk_on F nE r0 r (lo, sk, en, kn, fc, co) f H locs ls st) : rk_on F nE r0 r (lo, y :: sk, en, kn, fc, co) f H locs ls (r y :: st) := by
  obtain ⟨h1, h2, h3, h4, h5, h⟩ := h
  exact ⟨h1, h2, h3, h4, by rw [h5]; rfl, h⟩
theorem rk_pop {y : Nat} (h : rk_on F nE r0 r (lo, y :: sk, en, kn, fc, co) f H locs ls st) : ∃ st', st = r y :: st' ∧ rk_on F nE r0 r (lo, sk, en, kn, fc, co) f H locs ls st' := by
  obtain ⟨h1, h2, h3, h4, h5, h⟩ := h
  exact ⟨sk.map r, h5, h1, h2, h3, h4, rfl, h⟩
theorem rk_addf {q : Nat × Nat × Nat × Int} (h : rk_on F nE r0 r (lo, sk, en, kn, fc, co) f H locs ls st) (hq : rk_fact r q) : rk_on F nE r0 r (lo, sk, en, kn, q :: fc, co) f H locs ls st := by
  obtain ⟨h1, h2, h3, h⟩ := h
  refine ⟨h1, h2, fun p hp => ?_, h⟩
  rcases List.mem_cons.mp hp with rfl | hp
  · exact hq
  · exact h3 p hp
theorem rk_addk {q : Nat × Nat × Nat} (h : rk_on F nE r0 r (lo, sk, en, kn, fc, co) f H locs ls st) (hq : ∃ a, r q.1 = .ref a ∧ rk_kf r (f a) q.2.1 = some (r q.2.2)) : rk_on F nE r0 r (lo, sk, en, q :: kn, fc, co) f H locs ls st := by
  obtain ⟨h1, h2, h3, h⟩ := h
  refine ⟨h1, fun p hp => ?_, h3, h⟩
  rcases List.mem_cons.mp hp with rfl | hp
  · exact hq
  · exact h2 p hp
theorem rk_ref {y : Nat} {t : rk_AV} (h : rk_on F nE r0 r (lo, sk, en, kn, fc, co) f H locs ls st) (ht : rk_has (rk_fG F) (rk_fX F + co) t (r y)) : rk_on F nE r0 r (lo, sk, en.set y t, kn, fc, co) f H locs ls st := by
  obtain ⟨h1, h⟩ := h
  refine ⟨fun z u hu => ?_, h⟩
  by_cases hz : z = y
  · subst hz
    by_cases hl : z < en.length
    · rw [List.getElem?_set_self hl] at hu
      cases hu
      exact ht
    · rw [List.set_eq_of_length_le (by omega)] at hu
      exact h1 z u hu
  · rw [List.getElem?_set_ne (Ne.symm hz)] at hu
    exact h1 z u hu
theorem rk_val {y : Nat} {t : rk_AV} (h : rk_on F nE r0 r (lo, sk, en, kn, fc, co) f H locs ls st) (ht : en[y]? = some t) : rk_has (rk_fG F) (rk_fX F + co) t (r y) := h.1 y t ht
end RKP
end
section
/-! arithmetic of the checker -/
def rk_cst (t : rk_AV) : Option Int := match t with
  | (0, a, b) => if a = b then some a else none
  | _ => none
theorem rk_cst_ok {G : Nat → Option Nat} {X : Int} {t : rk_AV} {c : Int} {y : Int32} (h : rk_cst t = some c) (hv : rk_has G X t (.int y)) : y.toInt = c := by
  obtain ⟨n, a, b⟩ := t
  rcases n with _ | n
  · simp only [rk_cst] at h
    split at h
    · rename_i hab
      cases h
      obtain ⟨x, e, h1, h2⟩ := hv
      cases e
      omega
    · cases h
  · simp [rk_cst] at h
def rk_exact (t : rk_AV) (c : Int) : Bool := match t with
  | (0, a, b) => decide (-2147483648 ≤ a + c) && decide (b + c ≤ 2147483647)
  | (1, d, _) => decide (-2147483648 ≤ c) && decide (d + c ≤ 100000000)
  | _ => false
theorem rk_exact_ok {G : Nat → Option Nat} {X : Int} {t : rk_AV} {c : Int} {x : Int32} (hX : X + 100000000 ≤ 2147483647) (h : rk_exact t c = true) (hv : rk_has G X t (.int x)) : -2147483648 ≤ x.toInt + c ∧ x.toInt + c ≤ 2147483647 := by
  obtain ⟨n, a, b⟩ := t
  rcases n with _ | _ | n
  · simp only [rk_exact, Bool.and_eq_true, decide_eq_true_eq] at h
    obtain ⟨z, e, h1, h2⟩ := hv
    cases e
    omega
  · simp only [rk_exact, Bool.and_eq_true, decide_eq_true_eq] at h
    obtain ⟨z, e, h1, h2⟩ := hv
    cases e
    omega
  · simp [rk_exact] at h
def rk_add (tx ty : rk_AV) : rk_AV := match tx with
  | (0, a, b) => (match ty with
    | (0, c, d) => rk_fit (a + c) (b + d)
    | (1, e, _) => if 0 ≤ a ∧ e + b ≤ 100000000 then (1, e + b, 0) else rk_full
    | _ => rk_full)
  | (1, e, _) => (match ty with
    | (0, c, d) => if 0 ≤ c ∧ e + d ≤ 100000000 then (1, e + d, 0) else rk_full
    | _ => rk_full)
  | _ => rk_full
theorem rk_add_ok {G : Nat → Option Nat} {X : Int} {tx ty : rk_AV} {x y : Int32} (hX : X + 100000000 ≤ 2147483647) (h1 : rk_has G X tx (.int x)) (h2 : rk_has G X ty (.int y)) : rk_has G X (rk_add tx ty) (.int (x + y)) := by
  obtain ⟨n, a, b⟩ := tx
  obtain ⟨m, c, d⟩ := ty
  rcases n with _ | _ | n
  · rcases m with _ | _ | m
    · simp only [rk_add, rk_fit]
      split
      · obtain ⟨z, e, p1, p2⟩ := h1
        cases e
        obtain ⟨z, e, q1, q2⟩ := h2
        cases e
        refine ⟨_, rfl, ?_, ?_⟩ <;> rw [rk_add_e] <;> omega
      · exact rk_full_ok _
    · simp only [rk_add]
      split
      · obtain ⟨z, e, p1, p2⟩ := h1
        cases e
        obtain ⟨z, e, q1, q2⟩ := h2
        cases e
        refine ⟨_, rfl, ?_, ?_⟩ <;> rw [rk_add_e] <;> omega
      · exact rk_full_ok _
    · exact rk_full_ok _
  · rcases m with _ | m
    · simp only [rk_add]
      split
      · obtain ⟨z, e, p1, p2⟩ := h1
        cases e
        obtain ⟨z, e, q1, q2⟩ := h2
        cases e
        refine ⟨_, rfl, ?_, ?_⟩ <;> rw [rk_add_e] <;> omega
      · exact rk_full_ok _
    · exact rk_full_ok _
  · exact rk_full_ok _
/-- what is known of x - y by the facts -/
def rk_lb1 (fc : List (Nat × Nat × Nat × Int)) (x y : Nat) : Bool := fc.any (fun q => Nat.beq q.1 1 && (Nat.beq q.2.1 x && Nat.beq q.2.2.1 y))
def rk_lb (f0 : List (Nat × Nat × Nat × Int)) (sx sy : Nat) : List (Nat × Nat × Nat × Int) → Int
  | [] => -4294967296
  | q :: l => if Nat.beq q.1 0 && (Nat.beq q.2.1 sx && rk_lb1 f0 sy q.2.2.1) then max (q.2.2.2 + 1) (rk_lb f0 sx sy l) else rk_lb f0 sx sy l
theorem rk_lb1_ok {r : Nat → Value} {fc : List (Nat × Nat × Nat × Int)} {x y : Nat} (hf : ∀ q ∈ fc, rk_fact r q) (h : rk_lb1 fc x y = true) : rk_toI (r x) < rk_toI (r y) := by
  simp only [rk_lb1, List.any_eq_true, Bool.and_eq_true, Nat.beq_eq] at h
  obtain ⟨⟨n, a, b, c⟩, hq, e1, e2, e3⟩ := h
  dsimp only at e1 e2 e3
  subst e1 e2 e3
  exact hf _ hq
theorem rk_lb_ok {r : Nat → Value} {f0 : List (Nat × Nat × Nat × Int)} {sx sy : Nat} (hf : ∀ q ∈ f0, rk_fact r q) : ∀ fc : List (Nat × Nat × Nat × Int), (∀ q ∈ fc, rk_fact r q) → -4294967296 ≤ rk_toI (r sx) - rk_toI (r sy) → rk_lb f0 sx sy fc ≤ rk_toI (r sx) - rk_toI (r sy)
  | [], _, h => h
  | q :: l, hl, h => by
    have ih := rk_lb_ok (sx := sx) (sy := sy) hf l (fun p hp => hl p (List.mem_cons_of_mem _ hp)) h
    have hq := hl q List.mem_cons_self
    unfold rk_lb
    split
    · rename_i hc
      simp only [Bool.and_eq_true, Nat.beq_eq] at hc
      obtain ⟨n, a, b, c⟩ := q
      dsimp only at hc ⊢
      obtain ⟨rfl, rfl, h3⟩ := hc
      have h4 := rk_lb1_ok hf h3
      simp only [rk_fact] at hq
      omega
    · exact ih
def rk_rm (sx sy : Nat) : List (Nat × Nat × Nat × Int) → Option Int
  | [] => none
  | q :: l => if Nat.beq q.1 2 && (Nat.beq q.2.1 sy && Nat.beq q.2.2.1 sx) then some q.2.2.2 else rk_rm sx sy l
theorem rk_rm_ok {r : Nat → Value} {sx sy : Nat} {c : Int} : ∀ fc : List (Nat × Nat × Nat × Int), (∀ q ∈ fc, rk_fact r q) → rk_rm sx sy fc = some c → rk_toI (r sy) = rk_toI (r sx) % c
  | [], _, h => by simp [rk_rm] at h
  | q :: l, hl, h => by
    unfold rk_rm at h
    split at h
    · rename_i hc
      have hq := hl q List.mem_cons_self
      simp only [Bool.and_eq_true, Nat.beq_eq] at hc
      obtain ⟨n, a, b, d⟩ := q
      dsimp only at hc h
      obtain ⟨rfl, rfl, rfl⟩ := hc
      cases h
      exact hq
    · exact rk_rm_ok l (fun p hp => hl p (List.mem_cons_of_mem _ hp)) h
def rk_sub (fc : List (Nat × Nat × Nat × Int)) (sx sy : Nat) (tx ty : rk_AV) : rk_AV := match rk_iv tx with
  | none => rk_full
  | some (a, b) => match rk_iv ty with
    | none => rk_full
    | some (c, d) => match (if 0 ≤ a then rk_rm sx sy fc else none) with
      | some m => if 0 < m ∧ b ≤ 2147483647 then (0, m * (a / m), m * (b / m)) else rk_full
      | none => if -2147483648 ≤ a - d ∧ b - c ≤ 2147483647 then (0, max (a - d) (max (rk_lb fc sx sy fc) (if rk_lb1 fc sy sx then 1 else -4294967296)), b - c) else rk_full
theorem rk_sub_ok {G : Nat → Option Nat} {X : Int} {r : Nat → Value} {fc : List (Nat × Nat × Nat × Int)} {sx sy : Nat} {tx ty : rk_AV} {x y : Int32} (hf : ∀ q ∈ fc, rk_fact r q) (ex : r sx = .int x) (ey : r sy = .int y) (h1 : rk_has G X tx (.int x)) (h2 : rk_has G X ty (.int y)) : rk_has G X (rk_sub fc sx sy tx ty) (.int (x - y)) := by
  unfold rk_sub
  split
  · exact rk_full_ok _
  · rename_i a b hab
    split
    · exact rk_full_ok _
    · rename_i c d hcd
      obtain ⟨z, e, p1, p2⟩ := rk_iv_ok hab h1
      cases e
      obtain ⟨z, e, q1, q2⟩ := rk_iv_ok hcd h2
      cases e
      split
      · rename_i m hm
        split at hm
        · rename_i ha
          have hr := rk_rm_ok fc hf hm
          rw [ex, ey] at hr
          simp only [rk_toI] at hr
          split
          · rename_i hm0
            have hx0 : 0 ≤ x.toInt := by omega
            have e1 := Int.mul_ediv_add_emod x.toInt m
            have e2 : x.toInt - y.toInt = m * (x.toInt / m) := by omega
            have l0 := Int.emod_nonneg x.toInt (by omega : m ≠ 0)
            have l1 : m * (a / m) ≤ m * (x.toInt / m) := Int.mul_le_mul_of_nonneg_left (Int.ediv_le_ediv (by omega) p1) (by omega)
            have l2 : m * (x.toInt / m) ≤ m * (b / m) := Int.mul_le_mul_of_nonneg_left (Int.ediv_le_ediv (by omega) p2) (by omega)
            have l3 : 0 ≤ m * (x.toInt / m) := Int.mul_nonneg (by omega) (Int.ediv_nonneg hx0 (by omega))
            have l4 := rk_i_hi x
            refine ⟨_, rfl, ?_, ?_⟩ <;> rw [rk_sub_e] <;> omega
          · exact rk_full_ok _
        · cases hm
      · split
        · have hl := rk_lb_ok (sx := sx) (sy := sy) hf fc hf (by
            rw [ex, ey]
            simp only [rk_toI]
            have := rk_i_lo x
            have := rk_i_hi y
            omega)
          rw [ex, ey] at hl
          simp only [rk_toI] at hl
          have hl2 : (if rk_lb1 fc sy sx = true then 1 else -4294967296) ≤ x.toInt - y.toInt := by
            split
            · rename_i h3
              have := rk_lb1_ok hf h3
              rw [ex, ey] at this
              simp only [rk_toI] at this
              omega
            · have := rk_i_lo x
              have := rk_i_hi y
              omega
          refine ⟨_, rfl, ?_, ?_⟩ <;> rw [rk_sub_e] <;> omega
        · exact rk_full_ok _
def rk_mul (tx ty : rk_AV) : rk_AV := match rk_iv tx with
  | none => rk_full
  | some (a, b) => match rk_iv ty with
    | none => rk_full
    | some (c, d) => if 0 ≤ a ∧ 0 ≤ c then rk_fit (a * c) (b * d) else rk_full
theorem rk_mul_ok {G : Nat → Option Nat} {X : Int} {tx ty : rk_AV} {x y : Int32} (h1 : rk_has G X tx (.int x)) (h2 : rk_has G X ty (.int y)) : rk_has G X (rk_mul tx ty) (.int (x * y)) := by
  unfold rk_mul
  split
  · exact rk_full_ok _
  · rename_i a b hab
    split
    · exact rk_full_ok _
    · rename_i c d hcd
      obtain ⟨z, e, p1, p2⟩ := rk_iv_ok hab h1
      cases e
      obtain ⟨z, e, q1, q2⟩ := rk_iv_ok hcd h2
      cases e
      split
      · rename_i hp
        unfold rk_fit
        split
        · rename_i hq
          have l1 : a * c ≤ x.toInt * y.toInt := Int.mul_le_mul p1 q1 hp.2 (by omega)
          have l2 : x.toInt * y.toInt ≤ b * d := Int.mul_le_mul p2 q2 (by omega) (by omega)
          have l0 : 0 ≤ a * c := Int.mul_nonneg hp.1 hp.2
          refine ⟨_, rfl, ?_, ?_⟩ <;> rw [rk_mul_e] <;> omega
        · exact rk_full_ok _
      · exact rk_full_ok _
/-- a divisor that isn't 0 -/
def rk_nz (t : rk_AV) : Bool := match t with
  | (0, a, b) => decide (0 < a) || decide (b < 0)
  | _ => false
theorem rk_nz_ok {G : Nat → Option Nat} {X : Int} {t : rk_AV} {y : Int32} (h : rk_nz t = true) (hv : rk_has G X t (.int y)) : ¬ y = 0 := by
  obtain ⟨n, a, b⟩ := t
  rcases n with _ | n
  · simp only [rk_nz, Bool.or_eq_true, decide_eq_true_eq] at h
    obtain ⟨z, e, h1, h2⟩ := hv
    cases e
    intro h0
    subst h0
    have : (0 : Int32).toInt = 0 := rfl
    omega
  · simp [rk_nz] at h
/-- x by a number above 0, x not below 0 -/
def rk_dm (tx ty : rk_AV) : Option (Int × Int × Int) := match rk_iv tx with
  | none => none
  | some (a, b) => match rk_cst ty with
    | none => none
    | some c => if 0 ≤ a ∧ 0 < c then some (a, b, c) else none
theorem rk_dm_ok {G : Nat → Option Nat} {X : Int} {tx ty : rk_AV} {x y : Int32} {a b c : Int} (h : rk_dm tx ty = some (a, b, c)) (h1 : rk_has G X tx (.int x)) (h2 : rk_has G X ty (.int y)) : 0 ≤ a ∧ 0 < c ∧ a ≤ x.toInt ∧ x.toInt ≤ b ∧ y.toInt = c := by
  unfold rk_dm at h
  split at h
  · cases h
  · rename_i a' b' hab
    split at h
    · cases h
    · rename_i c' hc
      split at h
      · rename_i hp
        cases h
        obtain ⟨z, e, p1, p2⟩ := rk_iv_ok hab h1
        cases e
        exact ⟨hp.1, hp.2, p1, p2, rk_cst_ok hc h2⟩
      · cases h
def rk_and (tx ty : rk_AV) : rk_AV := match rk_iv ty with
  | some (c, d) => if 0 ≤ c then (0, 0, d) else (match rk_iv tx with
    | some (a, b) => if 0 ≤ a then (0, 0, b) else rk_full
    | none => rk_full)
  | none => rk_full
theorem rk_and_ok {G : Nat → Option Nat} {X : Int} {tx ty : rk_AV} {x y : Int32} (h1 : rk_has G X tx (.int x)) (h2 : rk_has G X ty (.int y)) : rk_has G X (rk_and tx ty) (.int (x &&& y)) := by
  unfold rk_and
  split
  · rename_i c d hcd
    obtain ⟨z, e, q1, q2⟩ := rk_iv_ok hcd h2
    cases e
    split
    · have := rk_and_r (x := x) (y := y) (by omega)
      exact ⟨_, rfl, by omega, by omega⟩
    · split
      · rename_i a b hab
        obtain ⟨z, e, p1, p2⟩ := rk_iv_ok hab h1
        cases e
        split
        · have := rk_and_l (x := x) (y := y) (by omega)
          exact ⟨_, rfl, by omega, by omega⟩
        · exact rk_full_ok _
      · exact rk_full_ok _
  · exact rk_full_ok _
def rk_isI (t : rk_AV) : Bool := (rk_iv t).isSome
theorem rk_isI_ok {G : Nat → Option Nat} {X : Int} {t : rk_AV} {v : Value} (h : rk_isI t = true) (hv : rk_has G X t v) : ∃ x : Int32, v = .int x := by
  unfold rk_isI at h
  cases hi : rk_iv t with
  | none => rw [hi] at h; cases h
  | some q =>
    obtain ⟨a, b⟩ := q
    obtain ⟨x, e, -⟩ := rk_iv_ok hi hv
    exact ⟨x, e⟩
/-- the machine's own -/
def rk_mop (ins : Instr) (x y : Int32) : Option Int32 := match ins with
  | .iadd => some (x + y)
  | .isub => some (x - y)
  | .imul => some (x * y)
  | .idiv => if y = 0 then none else some (x / y)
  | .irem => if y = 0 then none else some (x - x / y * y)
  | .iand => some (x &&& y)
  | .ior => some (x ||| y)
  | .ishl => some (x <<< (y &&& 31))
  | .ishr => some (x >>> (y &&& 31))
  | .iushr => some (x.toUInt32 >>> (y.toUInt32 &&& Int32.toUInt32 31)).toInt32
  | _ => none
def rk_lin (n s : Nat) (t : rk_AV) (c : Int) : List (Nat × Nat × Nat × Int) := if rk_exact t c then [(0, n, s, c)] else []
/-- the checker's: what comes, and facts on it -/
def rk_op (ins : Instr) (fc : List (Nat × Nat × Nat × Int)) (n sx sy : Nat) (tx ty : rk_AV) : Option (rk_AV × List (Nat × Nat × Nat × Int)) :=
  if rk_isI tx && rk_isI ty then (match ins with
    | .iadd => some (rk_add tx ty, (3, n, sx, (sy : Int)) :: match rk_cst ty with
      | some c => rk_lin n sx tx c
      | none => match rk_cst tx with
        | some c => rk_lin n sy ty c
        | none => [])
    | .isub => some (rk_sub fc sx sy tx ty, match rk_cst ty with
      | some c => rk_lin n sx tx (-c)
      | none => [])
    | .imul => some (rk_mul tx ty, [])
    | .idiv => (match rk_dm tx ty with
      | some (a, b, c) => some ((0, a / c, b / c), [])
      | none => if rk_nz ty then some (rk_full, []) else none)
    | .irem => (match rk_dm tx ty with
      | some (a, b, c) => some (if a / c = b / c then (0, a % c, b % c) else (0, 0, c - 1), [(2, n, sx, c)])
      | none => if rk_nz ty then some (rk_full, []) else none)
    | .iand => some (rk_and tx ty, [])
    | .ior => some (rk_full, [])
    | .ishl => some (rk_full, [])
    | .ishr => some (rk_full, [])
    | .iushr => some (if rk_cst ty = some 8 then (0, 0, 16777215) else rk_full, [])
    | _ => none) else none
theorem rk_lin_ok {G : Nat → Option Nat} {X : Int} {r : Nat → Value} {n s : Nat} {t : rk_AV} {c : Int} {x z : Int32} (hX : X + 100000000 ≤ 2147483647) (hv : rk_has G X t (.int x)) (es : r s = .int x) (en : r n = .int z) (hz : -2147483648 ≤ x.toInt + c → x.toInt + c ≤ 2147483647 → z.toInt = x.toInt + c) : ∀ q ∈ rk_lin n s t c, rk_fact r q := by
  intro q hq
  unfold rk_lin at hq
  split at hq
  · rename_i he
    rw [List.mem_singleton] at hq
    subst hq
    have := rk_exact_ok hX he hv
    simp only [rk_fact]
    rw [es, en]
    exact hz this.1 this.2
  · cases hq
theorem rk_op_ok {G : Nat → Option Nat} {X : Int} {r : Nat → Value} {ins : Instr} {fc fs : List (Nat × Nat × Nat × Int)} {n sx sy : Nat} {tx ty t : rk_AV} (hX : X + 100000000 ≤ 2147483647) (hf : ∀ q ∈ fc, rk_fact r q) (h : rk_op ins fc n sx sy tx ty = some (t, fs)) (h1 : rk_has G X tx (r sx)) (h2 : rk_has G X ty (r sy)) :
    ∃ x y z : Int32, r sx = .int x ∧ r sy = .int y ∧ rk_mop ins x y = some z ∧ rk_has G X t (.int z) ∧ ∀ r' : Nat → Value, r' n = .int z → r' sx = .int x → r' sy = .int y → ∀ q ∈ fs, rk_fact r' q := by
  unfold rk_op at h
  split at h
  · rename_i hi
    simp only [Bool.and_eq_true] at hi
    obtain ⟨x, ex⟩ := rk_isI_ok hi.1 h1
    obtain ⟨y, ey⟩ := rk_isI_ok hi.2 h2
    refine ⟨x, y, ?_⟩
    rw [ex] at h1
    rw [ey] at h2
    cases ins with
    | iadd =>
      simp only [Option.some.injEq, Prod.mk.injEq] at h
      obtain ⟨rfl, rfl⟩ := h
      refine ⟨x + y, ex, ey, rfl, rk_add_ok hX h1 h2, fun r' e0 e1 e2 => List.forall_mem_cons.mpr ⟨⟨x, y, e1, by rw [Int.toNat_natCast]; exact e2, e0⟩, ?_⟩⟩
      split
      · rename_i c hc
        have hy := rk_cst_ok hc h2
        exact rk_lin_ok hX h1 e1 e0 (fun a b => by rw [rk_add_e] <;> omega)
      · split
        · rename_i c hc
          have hy := rk_cst_ok hc h1
          exact rk_lin_ok hX h2 e2 e0 (fun a b => by rw [rk_add_e] <;> omega)
        · intro q hq; cases hq
    | isub =>
      simp only [Option.some.injEq, Prod.mk.injEq] at h
      obtain ⟨rfl, rfl⟩ := h
      refine ⟨x - y, ex, ey, rfl, rk_sub_ok hf ex ey h1 h2, fun r' e0 e1 e2 => ?_⟩
      split
      · rename_i c hc
        have hy := rk_cst_ok hc h2
        exact rk_lin_ok hX h1 e1 e0 (fun a b => by rw [rk_sub_e] <;> omega)
      · intro q hq; cases hq
    | imul =>
      simp only [Option.some.injEq, Prod.mk.injEq] at h
      obtain ⟨rfl, rfl⟩ := h
      exact ⟨x * y, ex, ey, rfl, rk_mul_ok h1 h2, fun _ _ _ _ q hq => by cases hq⟩
    | idiv =>
      simp only at h
      split at h
      · rename_i a b c hd
        simp only [Option.some.injEq, Prod.mk.injEq] at h
        obtain ⟨rfl, rfl⟩ := h
        obtain ⟨g1, g2, g3, g4, g5⟩ := rk_dm_ok hd h1 h2
        have hy0 : ¬ y = 0 := fun h0 => by
          subst h0
          have : (0 : Int32).toInt = 0 := rfl
          omega
        refine ⟨x / y, ex, ey, by simp only [rk_mop, if_neg hy0], ⟨_, rfl, ?_, ?_⟩, fun _ _ _ _ q hq => by cases hq⟩
        · rw [rk_div_e (by omega) (by omega), g5]
          exact Int.ediv_le_ediv g2 g3
        · rw [rk_div_e (by omega) (by omega), g5]
          exact Int.ediv_le_ediv g2 g4
      · split at h
        · rename_i hn
          simp only [Option.some.injEq, Prod.mk.injEq] at h
          obtain ⟨rfl, rfl⟩ := h
          exact ⟨x / y, ex, ey, by simp only [rk_mop, if_neg (rk_nz_ok hn h2)], rk_full_ok _, fun _ _ _ _ q hq => by cases hq⟩
        · cases h
    | irem =>
      simp only at h
      split at h
      · rename_i a b c hd
        simp only [Option.some.injEq, Prod.mk.injEq] at h
        obtain ⟨rfl, rfl⟩ := h
        obtain ⟨g1, g2, g3, g4, g5⟩ := rk_dm_ok hd h1 h2
        have hy0 : ¬ y = 0 := fun h0 => by
          subst h0
          have : (0 : Int32).toInt = 0 := rfl
          omega
        have hz : (x - x / y * y).toInt = x.toInt % c := by rw [rk_rem_e (by omega) (by omega), g5]
        refine ⟨x - x / y * y, ex, ey, by simp only [rk_mop, if_neg hy0], ?_, fun r' e0 e1 e2 q hq => ?_⟩
        · have k1 := Int.emod_nonneg x.toInt (by omega : c ≠ 0)
          have k2 := Int.emod_lt_of_pos x.toInt g2
          split
          · rename_i hab
            have q1 := Int.ediv_le_ediv g2 g3
            have q2 := Int.ediv_le_ediv g2 g4
            have e1 := Int.mul_ediv_add_emod x.toInt c
            have e2 := Int.mul_ediv_add_emod a c
            have e3 := Int.mul_ediv_add_emod b c
            have e4 : x.toInt / c = a / c := by omega
            have e5 : b / c = a / c := by omega
            rw [e4] at e1
            rw [e5] at e3
            refine ⟨_, rfl, ?_, ?_⟩ <;> rw [hz] <;> omega
          · refine ⟨_, rfl, ?_, ?_⟩ <;> rw [hz] <;> omega
        · rw [List.mem_singleton] at hq
          subst hq
          simp only [rk_fact]
          rw [e0, e1]
          exact hz
      · split at h
        · rename_i hn
          simp only [Option.some.injEq, Prod.mk.injEq] at h
          obtain ⟨rfl, rfl⟩ := h
          exact ⟨x - x / y * y, ex, ey, by simp only [rk_mop, if_neg (rk_nz_ok hn h2)], rk_full_ok _, fun _ _ _ _ q hq => by cases hq⟩
        · cases h
    | iand =>
      simp only [Option.some.injEq, Prod.mk.injEq] at h
      obtain ⟨rfl, rfl⟩ := h
      exact ⟨x &&& y, ex, ey, rfl, rk_and_ok h1 h2, fun _ _ _ _ q hq => by cases hq⟩
    | ior =>
      simp only [Option.some.injEq, Prod.mk.injEq] at h
      obtain ⟨rfl, rfl⟩ := h
      exact ⟨x ||| y, ex, ey, rfl, rk_full_ok _, fun _ _ _ _ q hq => by cases hq⟩
    | ishl =>
      simp only [Option.some.injEq, Prod.mk.injEq] at h
      obtain ⟨rfl, rfl⟩ := h
      exact ⟨_, ex, ey, rfl, rk_full_ok _, fun _ _ _ _ q hq => by cases hq⟩
    | ishr =>
      simp only [Option.some.injEq, Prod.mk.injEq] at h
      obtain ⟨rfl, rfl⟩ := h
      exact ⟨_, ex, ey, rfl, rk_full_ok _, fun _ _ _ _ q hq => by cases hq⟩
    | iushr =>
      simp only [Option.some.injEq, Prod.mk.injEq] at h
      obtain ⟨rfl, rfl⟩ := h
      refine ⟨_, ex, ey, rfl, ?_, fun _ _ _ _ q hq => by cases hq⟩
      split
      · rename_i hc
        have hy := rk_cst_ok hc h2
        have : y = 8 := by
          apply Int32.toInt_inj.mp
          rw [hy]
          rfl
        subst this
        exact ⟨_, rfl, rk_ushr8 x⟩
      · exact rk_full_ok _
    | _ => simp at h
  · cases h
end
section
/-! branches: what is known behind a comparison -/
def rk_rel (c : Nat) (x y : Int) : Prop := match c with
  | 0 => x = y
  | 1 => ¬ x = y
  | 2 => x < y
  | 3 => y ≤ x
  | 4 => y < x
  | _ => x ≤ y
def rk_iI (c : Nat) (a b d e : Int) : (Int × Int) × (Int × Int) := match c with
  | 0 => ((max a d, min b e), (max a d, min b e))
  | 1 => if d = e then ((if a = d then a + 1 else a, if b = d then b - 1 else b), (d, e)) else if a = b then ((a, b), (if d = a then d + 1 else d, if e = a then e - 1 else e)) else ((a, b), (d, e))
  | 2 => ((a, min b (e - 1)), (max d (a + 1), e))
  | 3 => ((max a d, b), (d, min e b))
  | 4 => ((max a (d + 1), b), (d, min e (b - 1)))
  | _ => ((a, min b e), (max d a, e))
theorem rk_iI_ok {c : Nat} {a b d e x y : Int} (h : rk_rel c x y) (h1 : a ≤ x) (h2 : x ≤ b) (h3 : d ≤ y) (h4 : y ≤ e) : (rk_iI c a b d e).1.1 ≤ x ∧ x ≤ (rk_iI c a b d e).1.2 ∧ (rk_iI c a b d e).2.1 ≤ y ∧ y ≤ (rk_iI c a b d e).2.2 := by
  rcases c with _ | _ | _ | _ | _ | c
  · simp only [rk_rel] at h; simp only [rk_iI]; omega
  · simp only [rk_rel] at h
    simp only [rk_iI]
    split
    · dsimp only
      refine ⟨?_, ?_, h3, h4⟩ <;> split <;> omega
    · split
      · dsimp only
        refine ⟨h1, h2, ?_, ?_⟩ <;> split <;> omega
      · exact ⟨h1, h2, h3, h4⟩
  · simp only [rk_rel] at h; simp only [rk_iI]; omega
  · simp only [rk_rel] at h; simp only [rk_iI]; omega
  · simp only [rk_rel] at h; simp only [rk_iI]; omega
  · simp only [rk_rel] at h; simp only [rk_iI]; omega
def rk_wb (t : rk_AV) (a b : Int) : rk_AV := match t with
  | (0, _, _) => (0, a, b)
  | (1, u) => if b ≤ 1000 then (0, a, b) else (1, u)
  | (n + 2, u) => (n + 2, u)
theorem rk_wb_ok {G : Nat → Option Nat} {X : Int} {t : rk_AV} {x : Int32} {a b : Int} (h : rk_has G X t (.int x)) (h1 : a ≤ x.toInt) (h2 : x.toInt ≤ b) : rk_has G X (rk_wb t a b) (.int x) := by
  obtain ⟨n, u⟩ := t
  rcases n with _ | _ | n
  · exact ⟨x, rfl, h1, h2⟩
  · simp only [rk_wb]
    split
    · exact ⟨x, rfl, h1, h2⟩
    · exact h
  · exact h
def rk_df (y : Nat) : List (Nat × Nat × Nat × Int) → Option (Nat × Int)
  | [] => none
  | q :: l => if Nat.beq q.1 0 && Nat.beq q.2.1 y then some (q.2.2.1, q.2.2.2) else rk_df y l
theorem rk_df_ok {r : Nat → Value} {y x : Nat} {c : Int} : ∀ fc : List (Nat × Nat × Nat × Int), (∀ q ∈ fc, rk_fact r q) → rk_df y fc = some (x, c) → rk_toI (r y) = rk_toI (r x) + c
  | [], _, h => by cases h
  | q :: l, hl, h => by
    unfold rk_df at h
    split at h
    · rename_i hc
      have hq := hl q List.mem_cons_self
      simp only [Bool.and_eq_true, Nat.beq_eq] at hc
      obtain ⟨n, a, b, d⟩ := q
      dsimp only at hc h
      obtain ⟨rfl, rfl⟩ := hc
      cases h
      exact hq
    · exact rk_df_ok l (fun p hp => hl p (List.mem_cons_of_mem _ hp)) h
/-- what is known of y is known of x, y = x + c -/
def rk_prop (fc : List (Nat × Nat × Nat × Int)) (y : Nat) (en : List rk_AV) : List rk_AV := match en[y]? with
  | some (0, a, b) => (match rk_df y fc with
    | none => en
    | some (x, c) => match en[x]? with
      | some (0, p, q) => en.set x (0, max p (a - c), min q (b - c))
      | _ => en)
  | _ => en
def rk_cf (c sx sy : Nat) : List (Nat × Nat × Nat × Int) := match c with
  | 2 => [(1, sx, sy, 0)]
  | 4 => [(1, sy, sx, 0)]
  | _ => []
theorem rk_cf_ok {r : Nat → Value} {c sx sy : Nat} (h : rk_rel c (rk_toI (r sx)) (rk_toI (r sy))) : ∀ q ∈ rk_cf c sx sy, rk_fact r q := by
  intro q hq
  rcases c with _ | _ | _ | _ | _ | c
  · cases hq
  · cases hq
  · simp only [rk_cf, List.mem_singleton] at hq; subst hq; exact h
  · cases hq
  · simp only [rk_cf, List.mem_singleton] at hq; subst hq; exact h
  · cases hq
/-- x and y compared; none: it can't be said; []: it can't be -/
def rk_brn (S : rk_St) (c sx sy : Nat) : Option (List rk_St) := match S with
  | (lo, sk, en, kn, fc, co) => match en[sx]? with
    | none => none
    | some tx => match en[sy]? with
      | none => none
      | some ty => match rk_iv tx with
        | none => none
        | some (a, b) => match rk_iv ty with
          | none => none
          | some (d, e) => match rk_iI c a b d e with
            | ((a', b'), (d', e')) => if b' < a' ∨ e' < d' then some [] else some [(lo, sk, rk_prop fc sy (rk_prop fc sx ((en.set sx (rk_wb tx a' b')).set sy (rk_wb ty d' e'))), kn, rk_cf c sx sy ++ fc, co)]
/-- x compared with 0 -/
def rk_br0 (S : rk_St) (c sx : Nat) : Option (List rk_St) := match S with
  | (lo, sk, en, kn, fc, co) => match en[sx]? with
    | none => none
    | some tx => match rk_iv tx with
      | none => none
      | some (a, b) => match rk_iI c a b 0 0 with
        | ((a', b'), (d', e')) => if b' < a' ∨ e' < d' then some [] else some [(lo, sk, rk_prop fc sx (en.set sx (rk_wb tx a' b')), kn, fc, co)]
section RKB
variable {F : rk_Fx} {nE : Nat} {r0 r : Nat → Value} {lo : List (Nat × Nat)} {sk : List Nat} {en : List rk_AV} {kn : List (Nat × Nat × Nat)} {fc : List (Nat × Nat × Nat × Int)} {co : Int} {f : Nat → va_E} {H : Heap} {locs : List Loc} {ls : Array Slot} {st : List Value}
theorem rk_addfs : ∀ (fs : List (Nat × Nat × Nat × Int)), rk_on F nE r0 r (lo, sk, en, kn, fc, co) f H locs ls st → (∀ q ∈ fs, rk_fact r q) → rk_on F nE r0 r (lo, sk, en, kn, fs ++ fc, co) f H locs ls st
  | [], h, _ => h
  | q :: fs, h, hq => rk_addf (rk_addfs fs h (fun p hp => hq p (List.mem_cons_of_mem _ hp))) (hq q List.mem_cons_self)
theorem rk_prop_ok (y : Nat) (h : rk_on F nE r0 r (lo, sk, en, kn, fc, co) f H locs ls st) : rk_on F nE r0 r (lo, sk, rk_prop fc y en, kn, fc, co) f H locs ls st := by
  unfold rk_prop
  split
  · rename_i a b hy
    split
    · exact h
    · rename_i x c hd
      split
      · rename_i p q hx
        have e1 := rk_df_ok fc h.2.2.1 hd
        obtain ⟨u, eu, u1, u2⟩ := rk_val h hy
        obtain ⟨v, ev, v1, v2⟩ := rk_val h hx
        rw [eu, ev] at e1
        simp only [rk_toI] at e1
        refine rk_ref h ?_
        rw [ev]
        exact ⟨v, rfl, by omega, by omega⟩
      · exact h
  · exact h
theorem rk_brn_ok {S : rk_St} {c sx sy : Nat} {l : List rk_St} (hS : rk_on F nE r0 r S f H locs ls st) (h : rk_brn S c sx sy = some l) (hr : rk_rel c (rk_toI (r sx)) (rk_toI (r sy))) : ∃ S' ∈ l, rk_on F nE r0 r S' f H locs ls st := by
  obtain ⟨lo, sk, en, kn, fc, co⟩ := S
  simp only [rk_brn] at h
  split at h
  · cases h
  · rename_i tx htx
    split at h
    · cases h
    · rename_i ty hty
      split at h
      · cases h
      · rename_i a b hab
        split at h
        · cases h
        · rename_i d e hde
          have hx := rk_val hS htx
          have hy := rk_val hS hty
          obtain ⟨x, ex, p1, p2⟩ := rk_iv_ok hab hx
          obtain ⟨y, ey, q1, q2⟩ := rk_iv_ok hde hy
          have hr2 := hr
          rw [ex, ey] at hr2
          have hI := rk_iI_ok (c := c) (x := x.toInt) (y := y.toInt) hr2 p1 p2 q1 q2
          generalize hz : rk_iI c a b d e = zz at h hI
          obtain ⟨⟨a', b'⟩, ⟨d', e'⟩⟩ := zz
          dsimp only at h hI
          split at h
          · omega
          · cases h
            refine ⟨_, List.mem_singleton.mpr rfl, ?_⟩
            refine rk_addfs _ (rk_prop_ok sy (rk_prop_ok sx (rk_ref (rk_ref hS ?_) ?_))) (rk_cf_ok hr)
            · rw [ex]; rw [ex] at hx; exact rk_wb_ok hx hI.1 hI.2.1
            · rw [ey]; rw [ey] at hy; exact rk_wb_ok hy hI.2.2.1 hI.2.2.2
theorem rk_br0_ok {S : rk_St} {c sx : Nat} {l : List rk_St} (hS : rk_on F nE r0 r S f H locs ls st) (h : rk_br0 S c sx = some l) (hr : rk_rel c (rk_toI (r sx)) 0) : ∃ S' ∈ l, rk_on F nE r0 r S' f H locs ls st := by
  obtain ⟨lo, sk, en, kn, fc, co⟩ := S
  simp only [rk_br0] at h
  split at h
  · cases h
  · rename_i tx htx
    split at h
    · cases h
    · rename_i a b hab
      have hx := rk_val hS htx
      obtain ⟨x, ex, p1, p2⟩ := rk_iv_ok hab hx
      have hr2 := hr
      rw [ex] at hr2
      have hI := rk_iI_ok (c := c) (x := x.toInt) (y := 0) (d := 0) (e := 0) hr2 p1 p2 (Int.le_refl 0) (Int.le_refl 0)
      generalize hz : rk_iI c a b 0 0 = zz at h hI
      obtain ⟨⟨a', b'⟩, ⟨d', e'⟩⟩ := zz
      dsimp only at h hI
      split at h
      · omega
      · cases h
        refine ⟨_, List.mem_singleton.mpr rfl, rk_prop_ok sx (rk_ref hS ?_)⟩
        rw [ex]; rw [ex] at hx; exact rk_wb_ok hx hI.1 hI.2.1
end RKB
def rk_ct (c : ClassFile.Cond) : Nat := match c with
  | .eq => 0
  | .ne => 1
  | .lt => 2
  | .ge => 3
  | .gt => 4
  | .le => 5
def rk_cn (c : ClassFile.Cond) : Nat := match c with
  | .eq => 1
  | .ne => 0
  | .lt => 3
  | .ge => 2
  | .gt => 5
  | .le => 4
section RKW
variable {p : Program} {l : Launch} {e : Env} {R : Room} {s : State} {m : MethodId} {args : Array Value} {below : List Frame} {meth : Method} {c : Code} {H : Heap} {locs : List Loc} {cells slots : Nat} {Q : State → Prop} {cc : ByteArray} {pc : Nat} {ls : Array Slot} {rest : List Value}
theorem rk_icmp (hexec : p.tables.exec = Jvm.exec) (hb : c.code = cc) {x y : Int32} {cd : ClassFile.Cond} {off : Int} {tgt : Nat} (hdg : decode cc pc = .ok (.if_icmp cd off, 3)) (ht : (pc : Int) + off = (tgt : Int))
    (kt : rk_rel (rk_ct cd) x.toInt y.toInt → W p l e R s m args below meth c H locs cells slots Q (F0 m tgt ls rest)) (kf : rk_rel (rk_cn cd) x.toInt y.toInt → W p l e R s m args below meth c H locs cells slots Q (F0 m (pc + 3) ls rest)) : W p l e R s m args below meth c H locs cells slots Q (F0 m pc ls (.int y :: .int x :: rest)) := by
  cases cd with
  | eq => exact lv_icmp_eq hexec hb hdg ht (fun h => kt (by rw [h]; rfl)) (fun h => kf (fun h2 => h (Int32.toInt_inj.mp h2)))
  | ne => exact lv_icmp_ne hexec hb hdg ht (fun h => kt (fun h2 => h (Int32.toInt_inj.mp h2))) (fun h => kf (by
      show x.toInt = y.toInt
      rw [h]))
  | lt => exact lv_icmp_lt hexec hb hdg ht (fun h => kt (Int32.lt_iff_toInt_lt.mp h)) (fun h => kf (by
      show y.toInt ≤ x.toInt
      rw [Int32.lt_iff_toInt_lt] at h
      omega))
  | ge => exact lv_icmp_ge hexec hb hdg ht (fun h => kt (Int32.le_iff_toInt_le.mp h)) (fun h => kf (by
      show x.toInt < y.toInt
      rw [Int32.le_iff_toInt_le] at h
      omega))
  | gt => exact lv_icmp_gt hexec hb hdg ht (fun h => kt (Int32.lt_iff_toInt_lt.mp h)) (fun h => kf (by
      show x.toInt ≤ y.toInt
      rw [Int32.lt_iff_toInt_lt] at h
      omega))
  | le => exact lv_icmp_le hexec hb hdg ht (fun h => kt (Int32.le_iff_toInt_le.mp h)) (fun h => kf (by
      show y.toInt < x.toInt
      rw [Int32.le_iff_toInt_le] at h
      omega))
theorem rk_if0 (hexec : p.tables.exec = Jvm.exec) (hb : c.code = cc) {x : Int32} {cd : ClassFile.Cond} {off : Int} {tgt : Nat} (hdg : decode cc pc = .ok (.ifCond cd off, 3)) (ht : (pc : Int) + off = (tgt : Int))
    (kt : rk_rel (rk_ct cd) x.toInt 0 → W p l e R s m args below meth c H locs cells slots Q (F0 m tgt ls rest)) (kf : rk_rel (rk_cn cd) x.toInt 0 → W p l e R s m args below meth c H locs cells slots Q (F0 m (pc + 3) ls rest)) : W p l e R s m args below meth c H locs cells slots Q (F0 m pc ls (.int x :: rest)) := by
  have h0 : (0 : Int32).toInt = 0 := rfl
  cases cd with
  | eq => exact lv_if_eq hexec hb hdg ht (fun h => kt (by rw [h]; rfl)) (fun h => kf (fun h2 => h (Int32.toInt_inj.mp (h2.trans h0.symm))))
  | ne => exact lv_if_ne hexec hb hdg ht (fun h => kt (fun h2 => h (Int32.toInt_inj.mp (h2.trans h0.symm)))) (fun h => kf (by
      show x.toInt = 0
      rw [h]; rfl))
  | lt => exact lv_if_lt hexec hb hdg ht (fun h => kt (by have := Int32.lt_iff_toInt_lt.mp h; rw [h0] at this; exact this)) (fun h => kf (by
      show 0 ≤ x.toInt
      rw [Int32.lt_iff_toInt_lt, h0] at h
      omega))
  | ge => exact lv_if_ge hexec hb hdg ht (fun h => kt (by have := Int32.le_iff_toInt_le.mp h; rw [h0] at this; exact this)) (fun h => kf (by
      show x.toInt < 0
      rw [Int32.le_iff_toInt_le, h0] at h
      omega))
  | gt => exact lv_if_gt hexec hb hdg ht (fun h => kt (by have := Int32.lt_iff_toInt_lt.mp h; rw [h0] at this; exact this)) (fun h => kf (by
      show x.toInt ≤ 0
      rw [Int32.lt_iff_toInt_lt, h0] at h
      omega))
  | le => exact lv_if_le hexec hb hdg ht (fun h => kt (by have := Int32.le_iff_toInt_le.mp h; rw [h0] at this; exact this)) (fun h => kf (by
      show 0 < x.toInt
      rw [Int32.le_iff_toInt_le, h0] at h
      omega))
theorem rk_arW (hexec : p.tables.exec = Jvm.exec) (hb : c.code = cc) {x y z : Int32} {ins : Instr} (hdg : decode cc pc = .ok (ins, 1)) (hz : rk_mop ins x y = some z)
    (k : W p l e R s m args below meth c H locs cells slots Q (F0 m (pc + 1) ls (.int z :: rest))) : W p l e R s m args below meth c H locs cells slots Q (F0 m pc ls (.int y :: .int x :: rest)) := by
  cases ins <;> first
    | (simp [rk_mop] at hz; done)
    | (simp only [rk_mop, Option.some.injEq] at hz; subst hz; first | exact lv_iadd hexec hb hdg k | exact lv_isub hexec hb hdg k | exact lv_imul hexec hb hdg k | exact lv_iand hexec hb hdg k | exact lv_ior hexec hb hdg k | exact lv_ishl hexec hb hdg k | exact lv_ishr hexec hb hdg k | exact lv_iushr hexec hb hdg rfl k)
    | (simp only [rk_mop] at hz; split at hz; cases hz; rename_i hne; cases hz; first | exact lv_idiv hexec hb hdg hne k | exact lv_irem hexec hb hdg hne k)
end RKW
end
section
/-! instructions that touch neither cells nor methods -/
def rk_lk : List (Nat × Nat) → Nat → Option Nat
  | [], _ => none
  | q :: l, i => if Nat.beq q.1 i then some q.2 else rk_lk l i
theorem rk_lk_ok {i y : Nat} : ∀ lo : List (Nat × Nat), rk_lk lo i = some y → (i, y) ∈ lo
  | [], h => by cases h
  | q :: l, h => by
    unfold rk_lk at h
    split at h
    · rename_i hq
      rw [Nat.beq_eq] at hq
      cases h
      subst hq
      exact List.mem_cons_self
    · exact List.mem_cons_of_mem _ (rk_lk_ok l h)
def rk_up (lo : List (Nat × Nat)) (i y : Nat) : List (Nat × Nat) := (i, y) :: lo.filter (fun q => !(Nat.beq q.1 i))
def rk_isR (t : rk_AV) : Bool := Nat.beq t.1 2 || Nat.beq t.1 3
theorem rk_isR_ok {G : Nat → Option Nat} {X : Int} {t : rk_AV} {v : Value} (h : rk_isR t = true) (hv : rk_has G X t v) : v = .null ∨ ∃ a : Nat, v = .ref a := by
  obtain ⟨n, a, b⟩ := t
  rcases n with _ | _ | _ | _ | n
  · simp [rk_isR] at h
  · simp [rk_isR] at h
  · obtain ⟨x, rfl, -⟩ := hv; exact Or.inr ⟨_, rfl⟩
  · rcases hv with rfl | ⟨x, rfl, -⟩
    · exact Or.inl rfl
    · exact Or.inr ⟨_, rfl⟩
  · simp [rk_isR] at h
abbrev rk_Sc : Type := Option (List (Nat × rk_St))
def rk_tgt (pc : Nat) (off : Int) : Nat := ((pc : Int) + off).toNat
def rk_tok (pc : Nat) (off : Int) : Bool := decide (0 ≤ (pc : Int) + off)
theorem rk_tgt_ok {pc : Nat} {off : Int} (h : rk_tok pc off = true) : (pc : Int) + off = (rk_tgt pc off : Int) := by
  simp only [rk_tok, decide_eq_true_eq] at h
  unfold rk_tgt
  omega
def rk_mk (nE pc : Nat) (S : rk_St) (t : rk_AV) : rk_Sc := match S with
  | (lo, sk, en, kn, fc, co) => if rk_wf nE S then some [(pc, (lo, en.length :: sk, en ++ [t], kn, fc, co))] else none
def rk_ld (pc i : Nat) (S : rk_St) (ok : rk_AV → Bool) : rk_Sc := match S with
  | (lo, sk, en, kn, fc, co) => match rk_lk lo i with
    | none => none
    | some y => match en[y]? with
      | none => none
      | some t => if ok t then some [(pc, (lo, y :: sk, en, kn, fc, co))] else none
def rk_sto (nE nL pc i : Nat) (S : rk_St) (ok : rk_AV → Bool) : rk_Sc := match S with
  | (lo, sk, en, kn, fc, co) => match sk with
    | [] => none
    | y :: sk => match en[y]? with
      | none => none
      | some t => if ok t && (Nat.blt i nL && rk_wf nE S) then some [(pc, (rk_up lo i y, sk, en, kn, fc, co))] else none
def rk_inc (nE nL pc i : Nat) (c : Int) (S : rk_St) : rk_Sc := match S with
  | (lo, sk, en, kn, fc, co) => match rk_lk lo i with
    | none => none
    | some y => match en[y]? with
      | none => none
      | some t => if rk_isI t && (Nat.blt i nL && (rk_wf nE S && (decide (-32768 ≤ c) && decide (c ≤ 32767)))) then some [(pc, (rk_up lo i en.length, sk, en ++ [rk_add t (0, c, c)], kn, rk_lin en.length y t c ++ fc, co))] else none
/-- the sum is there already -/
def rk_cse (ins : Instr) (x y : Nat) : List (Nat × Nat × Nat × Int) → Option Nat
  | [] => none
  | q :: l => match ins with
    | .iadd => if Nat.beq q.1 3 && (Nat.beq q.2.2.1 x && decide (q.2.2.2 = (y : Int))) then some q.2.1 else rk_cse ins x y l
    | _ => none
def rk_ari (nE pc : Nat) (ins : Instr) (S : rk_St) : rk_Sc := match S with
  | (lo, sk, en, kn, fc, co) => match sk with
    | y :: x :: sk => (match en[x]? with
      | none => none
      | some tx => match en[y]? with
        | none => none
        | some ty => match rk_cse ins x y fc with
          | some z => some [(pc, (lo, z :: sk, en, kn, fc, co))]
          | none => match rk_op ins fc en.length x y tx ty with
            | none => none
            | some (t, fs) => if rk_wf nE S then some [(pc, (lo, en.length :: sk, en ++ [t], kn, fs ++ fc, co))] else none)
    | _ => none
def rk_at (pc : Nat) (l : List rk_St) : List (Nat × rk_St) := l.map (fun S => (pc, S))
def rk_two (pt pf : Nat) (a b : Option (List rk_St)) : rk_Sc := match a with
  | none => none
  | some la => match b with
    | none => none
    | some lb => some (rk_at pt la ++ rk_at pf lb)
def rk_cmpS (pc : Nat) (cd : ClassFile.Cond) (off : Int) (S : rk_St) : rk_Sc := match S with
  | (lo, sk, en, kn, fc, co) => match sk with
    | y :: x :: sk => if rk_tok pc off then rk_two (rk_tgt pc off) (pc + 3) (rk_brn (lo, sk, en, kn, fc, co) (rk_ct cd) x y) (rk_brn (lo, sk, en, kn, fc, co) (rk_cn cd) x y) else none
    | _ => none
def rk_if0S (pc : Nat) (cd : ClassFile.Cond) (off : Int) (S : rk_St) : rk_Sc := match S with
  | (lo, sk, en, kn, fc, co) => match sk with
    | x :: sk => if rk_tok pc off then rk_two (rk_tgt pc off) (pc + 3) (rk_br0 (lo, sk, en, kn, fc, co) (rk_ct cd) x) (rk_br0 (lo, sk, en, kn, fc, co) (rk_cn cd) x) else none
    | _ => none
/-- null or not: tn behind null, tr behind a cell -/
def rk_nul (tn tr : Nat) (S : rk_St) : rk_Sc := match S with
  | (lo, sk, en, kn, fc, co) => match sk with
    | x :: sk => (match en[x]? with
      | none => none
      | some t => match t with
        | (2, _, _) => some [(tr, (lo, sk, en, kn, fc, co))]
        | (3, k, _) => some [(tn, (lo, sk, en, kn, fc, co)), (tr, (lo, sk, en.set x (2, k, 0), kn, fc, co))]
        | _ => none)
    | _ => none
/-- a table's places, one behind the other -/
def rk_tc (pc x : Nat) (a b : Int) (S : rk_St) : Int → List Int → List (Nat × rk_St)
  | _, [] => []
  | k, o :: l => if a ≤ k ∧ k ≤ b then (rk_tgt pc o, (S.1, S.2.1, S.2.2.1.set x (0, k, k), S.2.2.2)) :: rk_tc pc x a b S (k + 1) l else rk_tc pc x a b S (k + 1) l
def rk_tsw (pc : Nat) (d lo hi : Int) (offs : Array Int) (S : rk_St) : rk_Sc := match S with
  | (l0, sk, en, kn, fc, co) => match sk with
    | x :: sk => (match en[x]? with
      | none => none
      | some t => match rk_iv t with
        | none => none
        | some (a, b) => if rk_tok pc d && (offs.toList.all (rk_tok pc) && decide ((offs.toList.length : Int) = hi - lo + 1)) then
            some ((if lo ≤ a ∧ b ≤ hi then [] else [(rk_tgt pc d, (l0, sk, en, kn, fc, co))]) ++ rk_tc pc x a b (l0, sk, en, kn, fc, co) lo offs.toList) else none)
    | _ => none
def rk_s1 (nE nL : Nat) (cs : Nat → Option Int32) (pc : Nat) (ins : Instr) (S : rk_St) : rk_Sc := match ins with
  | .iconst n => rk_mk nE (pc + 1) S (0, (Int32.ofInt n).toInt, (Int32.ofInt n).toInt)
  | .bipush n => rk_mk nE (pc + 2) S (0, (Int8.ofInt n).toInt32.toInt, (Int8.ofInt n).toInt32.toInt)
  | .sipush n => rk_mk nE (pc + 3) S (0, (Int16.ofInt n).toInt32.toInt, (Int16.ofInt n).toInt32.toInt)
  | .ldc i => (match cs i with
    | none => none
    | some v => rk_mk nE (pc + 2) S (0, v.toInt, v.toInt))
  | .ldc_w i => (match cs i with
    | none => none
    | some v => rk_mk nE (pc + 3) S (0, v.toInt, v.toInt))
  | .aconst_null => rk_mk nE (pc + 1) S (3, 4, 0)
  | .iload i => rk_ld (pc + 2) i S rk_isI
  | .iload_n i => rk_ld (pc + 1) i S rk_isI
  | .aload i => rk_ld (pc + 2) i S rk_isR
  | .aload_n i => rk_ld (pc + 1) i S rk_isR
  | .istore i => rk_sto nE nL (pc + 2) i S rk_isI
  | .istore_n i => rk_sto nE nL (pc + 1) i S rk_isI
  | .astore i => rk_sto nE nL (pc + 2) i S rk_isR
  | .astore_n i => rk_sto nE nL (pc + 1) i S rk_isR
  | .iinc i c => rk_inc nE nL (pc + 3) i c S
  | .iadd => rk_ari nE (pc + 1) .iadd S
  | .isub => rk_ari nE (pc + 1) .isub S
  | .imul => rk_ari nE (pc + 1) .imul S
  | .idiv => rk_ari nE (pc + 1) .idiv S
  | .irem => rk_ari nE (pc + 1) .irem S
  | .iand => rk_ari nE (pc + 1) .iand S
  | .ior => rk_ari nE (pc + 1) .ior S
  | .ishl => rk_ari nE (pc + 1) .ishl S
  | .ishr => rk_ari nE (pc + 1) .ishr S
  | .iushr => rk_ari nE (pc + 1) .iushr S
  | .pop => (match S with
    | (lo, sk, en, kn, fc, co) => match sk with
      | y :: sk => if (en[y]?).isSome then some [(pc + 1, (lo, sk, en, kn, fc, co))] else none
      | _ => none)
  | .dup => (match S with
    | (lo, sk, en, kn, fc, co) => match sk with
      | y :: sk => if (en[y]?).isSome then some [(pc + 1, (lo, y :: y :: sk, en, kn, fc, co))] else none
      | _ => none)
  | .dup2 => (match S with
    | (lo, sk, en, kn, fc, co) => match sk with
      | y :: x :: sk => if (en[y]?).isSome && (en[x]?).isSome then some [(pc + 1, (lo, y :: x :: y :: x :: sk, en, kn, fc, co))] else none
      | _ => none)
  | .goto o => if rk_tok pc o then some [(rk_tgt pc o, S)] else none
  | .if_icmp cd o => rk_cmpS pc cd o S
  | .ifCond cd o => rk_if0S pc cd o S
  | .ifnull o => if rk_tok pc o then rk_nul (rk_tgt pc o) (pc + 3) S else none
  | .ifnonnull o => if rk_tok pc o then rk_nul (pc + 3) (rk_tgt pc o) S else none
  | .tableswitch d lo hi offs => rk_tsw pc d lo hi offs S
  | _ => none
def rk_lenOk (ins : Instr) (len : Nat) : Bool := match ins with
  | .tableswitch _ _ _ _ => true
  | .lookupswitch _ _ => true
  | .iload _ => Nat.beq len 2
  | .aload _ => Nat.beq len 2
  | .istore _ => Nat.beq len 2
  | .astore _ => Nat.beq len 2
  | .bipush _ => Nat.beq len 2
  | .ldc _ => Nat.beq len 2
  | .newarray _ => Nat.beq len 2
  | .sipush _ => Nat.beq len 3
  | .ldc_w _ => Nat.beq len 3
  | .iinc _ _ => Nat.beq len 3
  | .if_icmp _ _ => Nat.beq len 3
  | .ifCond _ _ => Nat.beq len 3
  | .ifnull _ => Nat.beq len 3
  | .ifnonnull _ => Nat.beq len 3
  | .goto _ => Nat.beq len 3
  | .getfield _ => Nat.beq len 3
  | .putfield _ => Nat.beq len 3
  | .invokevirtual _ => Nat.beq len 3
  | .invokestatic _ => Nat.beq len 3
  | .invokespecial _ => Nat.beq len 3
  | .new _ => Nat.beq len 3
  | .anewarray _ => Nat.beq len 3
  | _ => Nat.beq len 1
end
section
section RKS
variable {p : Program} {l : Launch} {e : Env} {R : Room} {s : State} {m : MethodId} {args : Array Value} {below : List Frame} {meth : Method} {c : Code} {cm sm : Nat} {Q : State → Prop} {cc : ByteArray} {F : rk_Fx} {nE : Nat} {r0 : Nat → Value}
/-- from every state that the symbolic one covers, the machine comes to Q -/
def rk_G (p : Program) (l : Launch) (e : Env) (R : Room) (s : State) (m : MethodId) (args : Array Value) (below : List Frame) (meth : Method) (c : Code) (cm sm : Nat) (Q : State → Prop) (F : rk_Fx) (nE : Nat) (r0 : Nat → Value) (pc : Nat) (S : rk_St) : Prop :=
  ∀ (r : Nat → Value) (f : Nat → va_E) (H : Heap) (locs : List Loc) (ls : Array Slot) (st : List Value), rk_on F nE r0 r S f H locs ls st → W p l e R s m args below meth c H locs cm sm Q (F0 m pc ls st)
theorem rk_mk_ok {pc : Nat} {S : rk_St} {t : rk_AV} {out : List (Nat × rk_St)} {r : Nat → Value} {f : Nat → va_E} {H : Heap} {locs : List Loc} {ls : Array Slot} {st : List Value} {v : Value} (h : rk_mk nE pc S t = some out) (hk : ∀ q ∈ out, rk_G p l e R s m args below meth c cm sm Q F nE r0 q.1 q.2) (hS : rk_on F nE r0 r S f H locs ls st) (hv : rk_has (rk_fG F) (rk_fX F + S.2.2.2.2.2) t v) : W p l e R s m args below meth c H locs cm sm Q (F0 m pc ls (v :: st)) := by
  obtain ⟨lo, sk, en, kn, fc, co⟩ := S
  simp only [rk_mk] at h
  split at h
  · rename_i hw
    cases h
    obtain ⟨r', e0, e1, hS'⟩ := rk_fresh hS hw v
    have := rk_push en.length (rk_enter (t := t) hS' (by rw [e0]; exact hv))
    rw [e0] at this
    exact hk _ (List.mem_singleton.mpr rfl) r' f H locs ls _ this
  · cases h
theorem rk_lvs {ls : Array Slot} {nL : Nat} {l1 l2 : List (Nat × Value)} (h : lv_has ls nL l1) (hs : ∀ q ∈ l2, q ∈ l1) : lv_has ls nL l2 := ⟨h.1, h.2.1, fun q hq => h.2.2 q (hs q hq)⟩
theorem rk_get {S : rk_St} {r : Nat → Value} {f : Nat → va_E} {H : Heap} {locs : List Loc} {ls : Array Slot} {st : List Value} {i y : Nat} (hS : rk_on F nE r0 r S f H locs ls st) (h : rk_lk S.1 i = some y) : ls[i]? = some (.val (r y)) := by
  obtain ⟨lo, sk, en, kn, fc, co⟩ := S
  have h4 := hS.2.2.2.1
  exact h4.2.2 (i, r y) (List.mem_map.mpr ⟨(i, y), rk_lk_ok lo h, rfl⟩)
/-- behind a store -/
theorem rk_stored {lo : List (Nat × Nat)} {sk : List Nat} {en : List rk_AV} {kn : List (Nat × Nat × Nat)} {fc : List (Nat × Nat × Nat × Int)} {co : Int} {r : Nat → Value} {f : Nat → va_E} {H : Heap} {locs : List Loc} {ls ls' : Array Slot} {st : List Value} {i y : Nat} (hS : rk_on F nE r0 r (lo, sk, en, kn, fc, co) f H locs ls st) (hin : ∀ q ∈ lo, ∃ t, en[q.2]? = some t)
    (hl : lv_has ls' (rk_fn F) ((i, r y) :: (lo.map fun q => (q.1, r q.2)).filter (fun q => !(q.1 == i) && !(q.1 + 1 == i && q.2.category == 2)))) : rk_on F nE r0 r (rk_up lo i y, sk, en, kn, fc, co) f H locs ls' st := by
  obtain ⟨h1, h2, h3, h4, h⟩ := hS
  refine ⟨h1, h2, h3, rk_lvs hl ?_, h⟩
  intro q hq
  obtain ⟨z, hz, rfl⟩ := List.mem_map.mp hq
  rcases List.mem_cons.mp hz with rfl | hz
  · exact List.mem_cons_self
  · obtain ⟨hz1, hz2⟩ := List.mem_filter.mp hz
    refine List.mem_cons_of_mem _ (List.mem_filter.mpr ⟨List.mem_map.mpr ⟨z, hz1, rfl⟩, ?_⟩)
    obtain ⟨t, ht⟩ := hin z hz1
    have hc := rk_has_cat (h1 _ _ ht)
    have hne : ¬ z.1 = i := by
      intro h0
      rw [h0] at hz2
      simp at hz2
    dsimp only
    rw [hc]
    simp [hne]
theorem rk_wf_lo {S : rk_St} (h : rk_wf nE S = true) : ∀ q ∈ S.1, ∃ t, S.2.2.1[q.2]? = some t := by
  obtain ⟨lo, sk, en, kn, fc, co⟩ := S
  simp only [rk_wf, Bool.and_eq_true, List.all_eq_true, Nat.blt_eq, Nat.ble_eq] at h
  intro q hq
  exact ⟨_, List.getElem?_eq_getElem (h.2.1 q hq)⟩
theorem rk_at_mem {pc : Nat} {l : List rk_St} {S : rk_St} (h : S ∈ l) : (pc, S) ∈ rk_at pc l := List.mem_map.mpr ⟨S, h, rfl⟩
theorem rk_tc_mem {pc x : Nat} {a b : Int} {S : rk_St} : ∀ (l : List Int) (k n : Int) (o : Int), k ≤ n → l[(n - k).toNat]? = some o → a ≤ n → n ≤ b → (rk_tgt pc o, (S.1, S.2.1, S.2.2.1.set x (0, n, n), S.2.2.2)) ∈ rk_tc pc x a b S k l
  | [], k, n, o, h, ho, _, _ => by simp at ho
  | q :: l, k, n, o, h, ho, ha, hb => by
    unfold rk_tc
    by_cases hkn : k = n
    · subst hkn
      rw [if_pos ⟨ha, hb⟩]
      rw [Int.sub_self] at ho
      cases ho
      exact List.mem_cons_self
    · have e1 : (n - k).toNat = (n - (k + 1)).toNat + 1 := by omega
      rw [e1, List.getElem?_cons_succ] at ho
      have ih := rk_tc_mem (pc := pc) (x := x) (S := S) l (k + 1) n o (by omega) ho ha hb
      split
      · exact List.mem_cons_of_mem _ ih
      · exact ih
theorem rk_cse_ok {r : Nat → Value} {ins : Instr} {x y z : Nat} : ∀ fc : List (Nat × Nat × Nat × Int), (∀ q ∈ fc, rk_fact r q) → rk_cse ins x y fc = some z → ins = .iadd ∧ ∃ a b : Int32, r x = .int a ∧ r y = .int b ∧ r z = .int (a + b)
  | [], _, h => by cases h
  | q :: l, hl, h => by
    unfold rk_cse at h
    split at h
    · split at h
      · rename_i hc
        have hq := hl q List.mem_cons_self
        simp only [Bool.and_eq_true, Nat.beq_eq, decide_eq_true_eq] at hc
        obtain ⟨n, a, b, d⟩ := q
        dsimp only at hc h
        obtain ⟨rfl, rfl, rfl⟩ := hc
        cases h
        simp only [rk_fact] at hq
        rw [Int.toNat_natCast] at hq
        exact ⟨rfl, hq⟩
      · exact rk_cse_ok l (fun p hp => hl p (List.mem_cons_of_mem _ hp)) h
    · cases h
theorem rk_s1_ok (hx : p.tables.exec = Jvm.exec) (hb : c.code = cc) {own : String} (hown : s.vm.findClass own = some m.cls) {cs : Nat → Option Int32} (hcs : ∀ i v, cs i = some v → (Jvm.Cond.constant own i v).before args s = true) (hX : rk_fX F + 110000000 ≤ 2147483647)
    {pc len : Nat} {ins : Instr} {S : rk_St} {out : List (Nat × rk_St)} (hdg : decode cc pc = .ok (ins, len)) (hlen : rk_lenOk ins len = true) (h : rk_s1 nE (rk_fn F) cs pc ins S = some out) (hk : ∀ q ∈ out, rk_G p l e R s m args below meth c cm sm Q F nE r0 q.1 q.2) : rk_G p l e R s m args below meth c cm sm Q F nE r0 pc S := by
  intro r f H locs ls st hS
  have hXc : (rk_fX F + S.2.2.2.2.2) + 100000000 ≤ 2147483647 := by
    obtain ⟨lo, sk, en, kn, fc, co⟩ := S
    have := hS.2.2.2.2.2.2.1
    dsimp only
    omega
  have kload : ∀ (i n : Nat) (ok : rk_AV → Bool), rk_ld n i S ok = some out → ∃ (y : Nat) (t : rk_AV), ls[i]? = some (.val (r y)) ∧ ok t = true ∧ rk_has (rk_fG F) (rk_fX F + S.2.2.2.2.2) t (r y) ∧ W p l e R s m args below meth c H locs cm sm Q (F0 m n ls (r y :: st)) := by
    intro i n ok h
    have hg := @rk_get F nE r0 S r f H locs ls st i
    obtain ⟨lo, sk, en, kn, fc, co⟩ := S
    simp only [rk_ld] at h
    split at h
    · cases h
    · rename_i y hy
      split at h
      · cases h
      · rename_i t ht
        split at h
        · rename_i hok
          cases h
          exact ⟨y, t, hg hS hy, hok, rk_val hS ht, hk _ (List.mem_singleton.mpr rfl) r f H locs ls _ (rk_push y hS)⟩
        · cases h
  have ksto : ∀ (i n : Nat) (ok : rk_AV → Bool), rk_sto nE (rk_fn F) n i S ok = some out → ∃ (y : Nat) (t : rk_AV) (st' : List Value) (lv : List (Nat × Value)), st = r y :: st' ∧ ok t = true ∧ i < rk_fn F ∧ rk_has (rk_fG F) (rk_fX F + S.2.2.2.2.2) t (r y) ∧ lv_has ls (rk_fn F) lv ∧ ∀ ls' : Array Slot, lv_has ls' (rk_fn F) ((i, r y) :: lv.filter (fun q => !(q.1 == i) && !(q.1 + 1 == i && q.2.category == 2))) → W p l e R s m args below meth c H locs cm sm Q (F0 m n ls' st') := by
    intro i n ok h
    obtain ⟨lo, sk, en, kn, fc, co⟩ := S
    rcases sk with _ | ⟨y, sk'⟩
    · simp [rk_sto] at h
    · simp only [rk_sto] at h
      split at h
      · cases h
      · rename_i t ht
        split at h
        · rename_i hok
          simp only [Bool.and_eq_true, Nat.blt_eq] at hok
          cases h
          obtain ⟨st', e1, hS'⟩ := rk_pop hS
          refine ⟨y, t, st', lo.map fun q => (q.1, r q.2), e1, hok.1, hok.2.1, rk_val hS ht, hS.2.2.2.1, fun ls' hl => ?_⟩
          exact hk _ (List.mem_singleton.mpr rfl) r f H locs ls' _ (rk_stored hS' (rk_wf_lo hok.2.2) hl)
        · cases h
  have kari : ∀ ins' : Instr, ins = ins' → len = 1 → rk_ari nE (pc + 1) ins' S = some out → W p l e R s m args below meth c H locs cm sm Q (F0 m pc ls st) := by
    intro ins' hi hl1 h
    subst hi
    subst hl1
    obtain ⟨lo, sk, en, kn, fc, co⟩ := S
    rcases sk with _ | ⟨y, _ | ⟨x, sk'⟩⟩
    · simp [rk_ari] at h
    · simp [rk_ari] at h
    · simp only [rk_ari] at h
      split at h
      · cases h
      · rename_i tx htx
        split at h
        · cases h
        · rename_i ty hty
          split at h
          · rename_i z hz
            cases h
            obtain ⟨rfl, xx, yy, ex, ey, ez⟩ := rk_cse_ok fc hS.2.2.1 hz
            obtain ⟨st1, d1, hS1⟩ := rk_pop hS
            obtain ⟨st2, d2, hS2⟩ := rk_pop hS1
            subst d1
            subst d2
            rw [ex, ey]
            refine lv_iadd hx hb hdg ?_
            have h3 := rk_push z hS2
            rw [ez] at h3
            exact hk _ (List.mem_singleton.mpr rfl) r f H locs ls _ h3
          · split at h
            · cases h
            · rename_i t fs hop
              split at h
              · rename_i hw
                cases h
                obtain ⟨xx, yy, zz, ex, ey, hm, hz, hfs⟩ := rk_op_ok hXc hS.2.2.1 hop (rk_val hS htx) (rk_val hS hty)
                obtain ⟨r', e0, e1, hS'⟩ := rk_fresh hS hw (.int zz)
                have lx : x < en.length := (List.getElem?_eq_some_iff.mp htx).1
                have ly : y < en.length := (List.getElem?_eq_some_iff.mp hty).1
                obtain ⟨st1, d1, hS1⟩ := rk_pop hS'
                obtain ⟨st2, d2, hS2⟩ := rk_pop hS1
                subst d1
                subst d2
                rw [e1 y ly, e1 x lx, ex, ey]
                refine rk_arW hx hb hdg hm ?_
                have h3 := rk_push en.length (rk_addfs fs (rk_enter (t := t) hS2 (by rw [e0]; exact hz)) (hfs r' e0 ((e1 x lx).trans ex) ((e1 y ly).trans ey)))
                rw [e0] at h3
                exact hk _ (List.mem_singleton.mpr rfl) r' f H locs ls _ h3
              · cases h
  have kld : ∀ (t : rk_AV) (v : Value), rk_isR t = true → rk_has (rk_fG F) (rk_fX F + S.2.2.2.2.2) t v → v = .null ∨ ∃ a : Nat, v = .ref a := fun t v a b => rk_isR_ok a b
  have kli : ∀ (t : rk_AV) (v : Value), rk_isI t = true → rk_has (rk_fG F) (rk_fX F + S.2.2.2.2.2) t v → ∃ x : Int32, v = .int x := fun t v a b => rk_isI_ok a b
  have kone : ∀ n, Nat.beq len n = true → len = n := fun n h => Nat.beq_eq ▸ h
  cases ins with
  | iconst n =>
    have := kone _ hlen; subst this
    exact lv_iconst hx hb hdg rfl (rk_mk_ok h hk hS ⟨_, rfl, Int.le_refl _, Int.le_refl _⟩)
  | bipush n =>
    have := kone _ hlen; subst this
    exact lv_bipush hx hb hdg rfl (rk_mk_ok h hk hS ⟨_, rfl, Int.le_refl _, Int.le_refl _⟩)
  | sipush n =>
    have := kone _ hlen; subst this
    exact lv_sipush hx hb hdg rfl (rk_mk_ok h hk hS ⟨_, rfl, Int.le_refl _, Int.le_refl _⟩)
  | ldc i =>
    have := kone _ hlen; subst this
    simp only [rk_s1] at h
    split at h
    · cases h
    · rename_i v hv
      exact lv_ldc hx hb hown (hcs i v hv) hdg (rk_mk_ok h hk hS ⟨_, rfl, Int.le_refl _, Int.le_refl _⟩)
  | ldc_w i =>
    have := kone _ hlen; subst this
    simp only [rk_s1] at h
    split at h
    · cases h
    · rename_i v hv
      exact lv_ldcw hx hb hown (hcs i v hv) hdg (rk_mk_ok h hk hS ⟨_, rfl, Int.le_refl _, Int.le_refl _⟩)
  | aconst_null =>
    have := kone _ hlen; subst this
    exact lv_null hx hb hdg (rk_mk_ok h hk hS (Or.inl rfl))
  | iload i =>
    have := kone _ hlen; subst this
    obtain ⟨y, t, h1, h2, h3, h4⟩ := kload i _ _ h
    obtain ⟨x, ex⟩ := kli t _ h2 h3
    rw [ex] at h1 h4
    exact lv_iload hx hb hdg h1 h4
  | iload_n i =>
    have := kone _ hlen; subst this
    obtain ⟨y, t, h1, h2, h3, h4⟩ := kload i _ _ h
    obtain ⟨x, ex⟩ := kli t _ h2 h3
    rw [ex] at h1 h4
    exact lv_iload_n hx hb hdg rfl h1 h4
  | aload i =>
    have := kone _ hlen; subst this
    obtain ⟨y, t, h1, h2, h3, h4⟩ := kload i _ _ h
    rcases kld t _ h2 h3 with ex | ⟨a, ex⟩
    · rw [ex] at h1 h4
      exact lv_aloadN hx hb hdg h1 h4
    · rw [ex] at h1 h4
      exact lv_aload hx hb hdg h1 h4
  | aload_n i =>
    have := kone _ hlen; subst this
    obtain ⟨y, t, h1, h2, h3, h4⟩ := kload i _ _ h
    rcases kld t _ h2 h3 with ex | ⟨a, ex⟩
    · rw [ex] at h1 h4
      exact lv_aload_nN hx hb hdg rfl h1 h4
    · rw [ex] at h1 h4
      exact lv_aload_n hx hb hdg rfl h1 h4
  | istore i =>
    have := kone _ hlen; subst this
    obtain ⟨y, t, st', lv, e1, h2, h3, h4, h5, h6⟩ := ksto i _ _ h
    obtain ⟨x, ex⟩ := kli t _ h2 h4
    subst e1
    rw [ex] at h6 ⊢
    exact lv_istore hx hb hdg h5 h3 rfl h6
  | istore_n i =>
    have := kone _ hlen; subst this
    obtain ⟨y, t, st', lv, e1, h2, h3, h4, h5, h6⟩ := ksto i _ _ h
    obtain ⟨x, ex⟩ := kli t _ h2 h4
    subst e1
    rw [ex] at h6 ⊢
    exact lv_istore_n hx hb hdg rfl h5 h3 rfl h6
  | astore i =>
    have := kone _ hlen; subst this
    obtain ⟨y, t, st', lv, e1, h2, h3, h4, h5, h6⟩ := ksto i _ _ h
    subst e1
    rcases kld t _ h2 h4 with ex | ⟨a, ex⟩
    · rw [ex] at h6 ⊢
      exact lv_astoreN hx hb hdg h5 h3 rfl h6
    · rw [ex] at h6 ⊢
      exact lv_astore hx hb hdg h5 h3 rfl h6
  | astore_n i =>
    have := kone _ hlen; subst this
    obtain ⟨y, t, st', lv, e1, h2, h3, h4, h5, h6⟩ := ksto i _ _ h
    subst e1
    rcases kld t _ h2 h4 with ex | ⟨a, ex⟩
    · rw [ex] at h6 ⊢
      exact lv_astore_nN hx hb hdg rfl h5 h3 rfl h6
    · rw [ex] at h6 ⊢
      exact lv_astore_n hx hb hdg rfl h5 h3 rfl h6
  | iinc i cst =>
    have := kone _ hlen; subst this
    have hg := @rk_get F nE r0 S r f H locs ls st i
    obtain ⟨lo, sk, en, kn, fc, co⟩ := S
    simp only [rk_s1, rk_inc] at h
    split at h
    · cases h
    · rename_i y hy
      split at h
      · cases h
      · rename_i t ht
        split at h
        · rename_i hok
          simp only [Bool.and_eq_true, Nat.blt_eq, decide_eq_true_eq] at hok
          obtain ⟨g1, g2, g3, g4, g5⟩ := hok
          cases h
          have hv := rk_val hS ht
          obtain ⟨x, ex⟩ := rk_isI_ok g1 hv
          have ec : (Int32.ofInt cst).toInt = cst := by
            rw [Int32.toInt_ofInt]
            exact rk_bmod (by omega) (by omega)
          obtain ⟨r', e0, e1, hS'⟩ := rk_fresh hS g3 (.int (x + Int32.ofInt cst))
          have ly : y < en.length := (List.getElem?_eq_some_iff.mp ht).1
          obtain ⟨k, hkk⟩ := List.getElem?_of_mem (List.mem_map.mpr ⟨(i, y), rk_lk_ok lo hy, rfl⟩ : (i, r' y) ∈ lo.map fun q => (q.1, r' q.2))
          have ey : r' y = .int x := (e1 y ly).trans ex
          rw [ey] at hkk
          have hv2 : rk_has (rk_fG F) (rk_fX F + co) t (.int x) := ex ▸ hv
          refine lv_iinc hx hb hdg hS'.2.2.2.1 hkk rfl g2 rfl (fun ls' hl => ?_)
          have hS2 := rk_enter (t := rk_add t (0, cst, cst)) hS' (by
            rw [e0]
            exact rk_add_ok hXc hv2 ⟨_, rfl, by omega, by omega⟩)
          have hS3 := rk_addfs (rk_lin en.length y t cst) hS2 (rk_lin_ok hXc hv2 ey e0 (fun a b => by rw [rk_add_e] <;> omega))
          have hl2 := hl
          rw [← e0] at hl2
          refine hk _ (List.mem_singleton.mpr rfl) r' f H locs ls' _ (rk_stored hS3 (fun q hq => ?_) hl2)
          obtain ⟨t', ht'⟩ := rk_wf_lo g3 q hq
          dsimp only at ht'
          exact ⟨t', by rw [List.getElem?_append_left (List.getElem?_eq_some_iff.mp ht').1]; exact ht'⟩
        · cases h
  | iadd => exact kari _ rfl (kone _ hlen) h
  | isub => exact kari _ rfl (kone _ hlen) h
  | imul => exact kari _ rfl (kone _ hlen) h
  | idiv => exact kari _ rfl (kone _ hlen) h
  | irem => exact kari _ rfl (kone _ hlen) h
  | iand => exact kari _ rfl (kone _ hlen) h
  | ior => exact kari _ rfl (kone _ hlen) h
  | ishl => exact kari _ rfl (kone _ hlen) h
  | ishr => exact kari _ rfl (kone _ hlen) h
  | iushr => exact kari _ rfl (kone _ hlen) h
  | pop =>
    have := kone _ hlen; subst this
    obtain ⟨lo, sk, en, kn, fc, co⟩ := S
    simp only [rk_s1] at h
    split at h
    · rename_i y sk'
      split at h
      · rename_i hy
        cases h
        obtain ⟨t, ht⟩ := Option.isSome_iff_exists.mp hy
        obtain ⟨st', d1, hS'⟩ := rk_pop hS
        subst d1
        exact lv_pop hx hb hdg (rk_has_cat (rk_val hS ht)) (hk _ (List.mem_singleton.mpr rfl) r f H locs ls _ hS')
      · cases h
    · cases h
  | dup =>
    have := kone _ hlen; subst this
    obtain ⟨lo, sk, en, kn, fc, co⟩ := S
    simp only [rk_s1] at h
    split at h
    · rename_i y sk'
      split at h
      · rename_i hy
        cases h
        obtain ⟨t, ht⟩ := Option.isSome_iff_exists.mp hy
        obtain ⟨st', d1, hS'⟩ := rk_pop hS
        subst d1
        exact lv_dup hx hb hdg (rk_has_cat (rk_val hS ht)) (hk _ (List.mem_singleton.mpr rfl) r f H locs ls _ (rk_push y hS))
      · cases h
    · cases h
  | dup2 =>
    have := kone _ hlen; subst this
    obtain ⟨lo, sk, en, kn, fc, co⟩ := S
    simp only [rk_s1] at h
    split at h
    · rename_i y x sk'
      split at h
      · rename_i hy
        simp only [Bool.and_eq_true] at hy
        cases h
        obtain ⟨t, ht⟩ := Option.isSome_iff_exists.mp hy.1
        obtain ⟨t2, ht2⟩ := Option.isSome_iff_exists.mp hy.2
        obtain ⟨st', d1, hS'⟩ := rk_pop hS
        obtain ⟨st2, d2, hS2⟩ := rk_pop hS'
        subst d1
        subst d2
        exact lv_dup2_11 hx hb hdg (rk_has_cat (rk_val hS ht)) (rk_has_cat (rk_val hS ht2)) (hk _ (List.mem_singleton.mpr rfl) r f H locs ls _ (rk_push y (rk_push x hS)))
      · cases h
    · cases h
  | goto o =>
    have := kone _ hlen; subst this
    simp only [rk_s1] at h
    split at h
    · rename_i ho
      cases h
      exact lv_goto hx hb hdg (rk_tgt_ok ho) (hk _ (List.mem_singleton.mpr rfl) r f H locs ls _ hS)
    · cases h
  | if_icmp cd o =>
    have := kone _ hlen; subst this
    obtain ⟨lo, sk, en, kn, fc, co⟩ := S
    simp only [rk_s1, rk_cmpS] at h
    split at h
    · rename_i y x sk'
      split at h
      · rename_i ho
        simp only [rk_two] at h
        split at h
        · cases h
        · rename_i la hla
          split at h
          · cases h
          · rename_i lb hlb
            cases h
            obtain ⟨st1, d1, hS1⟩ := rk_pop hS
            obtain ⟨st2, d2, hS2⟩ := rk_pop hS1
            subst d1
            subst d2
            have hxy : (∃ a : Int32, r x = .int a) ∧ ∃ b : Int32, r y = .int b := by
              simp only [rk_brn] at hla
              split at hla
              · cases hla
              · rename_i tx htx
                split at hla
                · cases hla
                · rename_i ty hty
                  split at hla
                  · cases hla
                  · rename_i a b hab
                    split at hla
                    · cases hla
                    · rename_i d e hde
                      obtain ⟨u, eu, -⟩ := rk_iv_ok hab (rk_val hS htx)
                      obtain ⟨v, ev, -⟩ := rk_iv_ok hde (rk_val hS hty)
                      exact ⟨⟨u, eu⟩, ⟨v, ev⟩⟩
            obtain ⟨⟨u, eu⟩, ⟨v, ev⟩⟩ := hxy
            rw [eu, ev]
            refine rk_icmp hx hb hdg (rk_tgt_ok ho) (fun hc => ?_) (fun hc => ?_)
            · obtain ⟨S', hS', ho'⟩ := rk_brn_ok hS2 hla (by rw [eu, ev]; exact hc)
              exact hk _ (List.mem_append_left _ (rk_at_mem hS')) r f H locs ls _ ho'
            · obtain ⟨S', hS', ho'⟩ := rk_brn_ok hS2 hlb (by rw [eu, ev]; exact hc)
              exact hk _ (List.mem_append_right _ (rk_at_mem hS')) r f H locs ls _ ho'
      · cases h
    · cases h
  | ifCond cd o =>
    have := kone _ hlen; subst this
    obtain ⟨lo, sk, en, kn, fc, co⟩ := S
    simp only [rk_s1, rk_if0S] at h
    split at h
    · rename_i x sk'
      split at h
      · rename_i ho
        simp only [rk_two] at h
        split at h
        · cases h
        · rename_i la hla
          split at h
          · cases h
          · rename_i lb hlb
            cases h
            obtain ⟨st1, d1, hS1⟩ := rk_pop hS
            subst d1
            have hxy : ∃ a : Int32, r x = .int a := by
              simp only [rk_br0] at hla
              split at hla
              · cases hla
              · rename_i tx htx
                split at hla
                · cases hla
                · rename_i a b hab
                  obtain ⟨u, eu, -⟩ := rk_iv_ok hab (rk_val hS htx)
                  exact ⟨u, eu⟩
            obtain ⟨u, eu⟩ := hxy
            rw [eu]
            refine rk_if0 hx hb hdg (rk_tgt_ok ho) (fun hc => ?_) (fun hc => ?_)
            · obtain ⟨S', hS', ho'⟩ := rk_br0_ok hS1 hla (by rw [eu]; exact hc)
              exact hk _ (List.mem_append_left _ (rk_at_mem hS')) r f H locs ls _ ho'
            · obtain ⟨S', hS', ho'⟩ := rk_br0_ok hS1 hlb (by rw [eu]; exact hc)
              exact hk _ (List.mem_append_right _ (rk_at_mem hS')) r f H locs ls _ ho'
      · cases h
    · cases h
  | ifnull o =>
    have := kone _ hlen; subst this
    obtain ⟨lo, sk, en, kn, fc, co⟩ := S
    simp only [rk_s1] at h
    split at h
    · rename_i ho
      simp only [rk_nul] at h
      split at h
      · rename_i x sk'
        obtain ⟨st1, d1, hS1⟩ := rk_pop hS
        subst d1
        split at h
        · cases h
        · rename_i t ht
          have hv := rk_val hS ht
          split at h
          · cases h
            obtain ⟨a, ea, -⟩ := hv
            rw [ea]
            exact lv_ifnull hx hb hdg (hk _ (List.mem_singleton.mpr rfl) r f H locs ls _ hS1)
          · cases h
            rcases hv with ea | ⟨a, ea, hg⟩
            · rw [ea]
              exact lv_ifnullN hx hb hdg (rk_tgt_ok ho) (hk _ List.mem_cons_self r f H locs ls _ hS1)
            · rw [ea]
              exact lv_ifnull hx hb hdg (hk _ (List.mem_cons_of_mem _ (List.mem_singleton.mpr rfl)) r f H locs ls _ (rk_ref hS1 ⟨a, ea, hg⟩))
          · cases h
      · cases h
    · cases h
  | ifnonnull o =>
    have := kone _ hlen; subst this
    obtain ⟨lo, sk, en, kn, fc, co⟩ := S
    simp only [rk_s1] at h
    split at h
    · rename_i ho
      simp only [rk_nul] at h
      split at h
      · rename_i x sk'
        obtain ⟨st1, d1, hS1⟩ := rk_pop hS
        subst d1
        split at h
        · cases h
        · rename_i t ht
          have hv := rk_val hS ht
          split at h
          · cases h
            obtain ⟨a, ea, -⟩ := hv
            rw [ea]
            exact lv_ifnonnull hx hb hdg (rk_tgt_ok ho) (hk _ (List.mem_singleton.mpr rfl) r f H locs ls _ hS1)
          · cases h
            rcases hv with ea | ⟨a, ea, hg⟩
            · rw [ea]
              exact lv_ifnonnullN hx hb hdg (hk _ List.mem_cons_self r f H locs ls _ hS1)
            · rw [ea]
              exact lv_ifnonnull hx hb hdg (rk_tgt_ok ho) (hk _ (List.mem_cons_of_mem _ (List.mem_singleton.mpr rfl)) r f H locs ls _ (rk_ref hS1 ⟨a, ea, hg⟩))
          · cases h
      · cases h
    · cases h
  | tableswitch d lo0 hi offs =>
    obtain ⟨lo, sk, en, kn, fc, co⟩ := S
    simp only [rk_s1, rk_tsw] at h
    split at h
    · rename_i x sk'
      obtain ⟨st1, d1, hS1⟩ := rk_pop hS
      subst d1
      split at h
      · cases h
      · rename_i t ht
        split at h
        · cases h
        · rename_i a b hab
          obtain ⟨u, eu, q1, q2⟩ := rk_iv_ok hab (rk_val hS ht)
          split at h
          · rename_i hok
            simp only [Bool.and_eq_true, List.all_eq_true, decide_eq_true_eq] at hok
            obtain ⟨g1, g2, g3⟩ := hok
            cases h
            rw [eu]
            by_cases hin : lo0 ≤ u.toInt ∧ u.toInt ≤ hi
            · have hlt : (u.toInt - lo0).toNat < offs.toList.length := by omega
              have ho : offs.toList[(u.toInt - lo0).toNat]? = some offs.toList[(u.toInt - lo0).toNat] := List.getElem?_eq_getElem hlt
              have hmem : offs.toList[(u.toInt - lo0).toNat] ∈ offs.toList := List.getElem_mem hlt
              generalize offs.toList[(u.toInt - lo0).toNat] = o at ho hmem
              refine lv_tableIn hx hb (off := o) (tgt := rk_tgt pc o) hdg (by omega) (by omega) (by rw [← Array.getElem?_toList]; exact ho) (rk_tgt_ok (g2 _ hmem)) ?_
              refine hk _ (List.mem_append_right _ (rk_tc_mem (S := (lo, sk', en, kn, fc, co)) offs.toList lo0 u.toInt o hin.1 ho q1 q2)) r f H locs ls _ (rk_ref hS1 ?_)
              rw [eu]
              exact ⟨u, rfl, Int.le_refl _, Int.le_refl _⟩
            · refine lv_tableOut hx hb hdg (by omega) (rk_tgt_ok g1) ?_
              refine hk (rk_tgt pc d, (lo, sk', en, kn, fc, co)) (List.mem_append_left _ ?_) r f H locs ls _ hS1
              rw [if_neg (by omega)]
              exact List.mem_singleton.mpr rfl
          · cases h
    · cases h
  | _ => simp [rk_s1] at h
end RKS
end
section
/-! instructions over cells -/
def rk_kn (y i : Nat) : List (Nat × Nat × Nat) → Option Nat
  | [] => none
  | q :: l => if Nat.beq q.1 y && Nat.beq q.2.1 i then some q.2.2 else rk_kn y i l
theorem rk_kn_ok {y i v : Nat} : ∀ l : List (Nat × Nat × Nat), rk_kn y i l = some v → (y, i, v) ∈ l
  | [], h => by cases h
  | q :: l, h => by
    unfold rk_kn at h
    split at h
    · rename_i hq
      simp only [Bool.and_eq_true, Nat.beq_eq] at hq
      obtain ⟨a, b, d⟩ := q
      dsimp only at hq h
      obtain ⟨rfl, rfl⟩ := hq
      cases h
      exact List.mem_cons_self
    · exact List.mem_cons_of_mem _ (rk_kn_ok l h)
/-- what a store of such a value costs the counters -/
def rk_dc (tv t : rk_AV) : Option Int := if rk_le tv t then some 0 else match t with
  | (1, 0, _) => (match tv with
    | (1, e, _) => if 0 ≤ e then some e else none
    | (0, a, b) => if 0 ≤ a ∧ 0 ≤ b then some b else none
    | _ => none)
  | _ => none
theorem rk_dc_ok {G : Nat → Option Nat} {X d : Int} {tv t : rk_AV} {v : Value} (hX : 0 ≤ X) (h : rk_dc tv t = some d) (hv : rk_has G X tv v) : 0 ≤ d ∧ rk_has G (X + d) t v := by
  unfold rk_dc at h
  split at h
  · rename_i hle
    cases h
    exact ⟨Int.le_refl 0, by rw [Int.add_zero]; exact rk_le_ok hX hle hv⟩
  · split at h
    · split at h
      · split at h
        · rename_i he
          cases h
          refine ⟨he, ?_⟩
          obtain ⟨x, rfl, h1, h2⟩ := hv
          exact ⟨x, rfl, h1, by omega⟩
        · cases h
      · split at h
        · rename_i he
          cases h
          refine ⟨he.2, ?_⟩
          obtain ⟨x, rfl, h1, h2⟩ := hv
          exact ⟨x, rfl, by omega, by omega⟩
        · cases h
      · cases h
    · cases h
abbrev rk_Fl : Type := Nat → Option (Nat × Nat × Nat)
/-- may a kind be written at these places -/
abbrev rk_Wr : Type := Nat → Int → Int → Bool
/-- two contents differ in these places alone -/
def rk_dif (x y : Int) (e0 e : va_E) : Prop := (∃ (ci : Nat) (fs : List Value) (i : Nat) (v : Value), e0 = .inr (ci, fs) ∧ e = .inr (ci, fs.set i v) ∧ x ≤ (i : Int) ∧ (i : Int) ≤ y) ∨ (∃ (cA : ClassId) (n : Nat) (g g' : Nat → Int32), e0 = .inl (cA, n, .inl g) ∧ e = .inl (cA, n, .inl g') ∧ ∀ j : Nat, ((j : Int) < x ∨ y < (j : Int)) → g' j = g j) ∨ (∃ (cA : ClassId) (n : Nat) (g g' : Nat → Option Nat), e0 = .inl (cA, n, .inr (.inr (.inr (.inr g)))) ∧ e = .inl (cA, n, .inr (.inr (.inr (.inr g')))) ∧ ∀ j : Nat, ((j : Int) < x ∨ y < (j : Int)) → g' j = g j)
def rk_gf (nE pc : Nat) (K : Nat → rk_KD) (fl : rk_Fl) (idx : Nat) (S : rk_St) : rk_Sc := match S with
  | (lo, sk, en, kn, fc, co) => match sk with
    | [] => none
    | y :: sk => match en[y]? with
      | some (2, k, _) => (match fl idx with
        | none => none
        | some (ci, i, _) => match K k.toNat with
          | (0, cj, _, ts) => if Nat.beq ci cj && Nat.blt i 1000000 then (match rk_kn y i kn with
            | some v => some [(pc + 3, (lo, v :: sk, en, kn, fc, co))]
            | none => match ts[i]? with
              | none => none
              | some t => if rk_wf nE S then some [(pc + 3, (lo, en.length :: sk, en ++ [t], (y, i, en.length) :: kn, fc, co))] else none) else none
          | _ => none)
      | _ => none
def rk_wOk (w : Nat) (tv : rk_AV) : Bool := if Nat.beq w 0 then rk_isI tv else if Nat.beq w 1 then rk_le tv (0, 0, 1) else if Nat.beq w 2 then rk_isR tv else false
def rk_aOk (tg : Nat) (K : Nat → rk_KD) (ap : Nat × Nat) (k : Nat) (tv : rk_AV) : Bool := if Nat.beq tg 1 then rk_isI tv else Nat.beq (K k).2.2.1 ap.1 && (Nat.beq tv.1 2 && (Nat.beq (K tv.2.1.toNat).1 0 && Nat.beq (K tv.2.1.toNat).2.1 ap.2))
def rk_pf (wr : rk_Wr) (pc : Nat) (K : Nat → rk_KD) (fl : rk_Fl) (idx : Nat) (S : rk_St) : rk_Sc := match S with
  | (lo, sk, en, kn, fc, co) => match sk with
    | [] => none
    | v :: sk => match sk with
      | [] => none
      | y :: sk => match en[v]? with
        | none => none
        | some tv => match en[y]? with
          | some (2, k, _) => (match fl idx with
            | none => none
            | some (ci, i, w) => match K k.toNat with
              | (0, cj, _, ts) => if Nat.beq ci cj && Nat.blt i 1000000 then (match ts[i]? with
                | none => none
                | some t => match rk_dc tv t with
                  | none => none
                  | some d => if decide (co + d ≤ 10000000) && (rk_wOk w tv && wr k.toNat (i : Int) (i : Int)) then
                      some [(pc + 3, (lo, sk, en, (y, i, v) :: kn.filter (fun q => !(Nat.beq q.2.1 i)), fc, co + d))] else none) else none
              | _ => none)
          | _ => none
def rk_al (nE pc : Nat) (K : Nat → rk_KD) (S : rk_St) : rk_Sc := match S with
  | (lo, sk, en, kn, fc, co) => match sk with
    | [] => none
    | y :: sk => match en[y]? with
      | some (2, k, _) => (match K k.toNat with
        | (0, _, _, _) => none
        | (tg, n, _, _) => if Nat.blt n 2147483648 && Nat.blt tg 9 then (if rk_wf nE S then some [(pc + 1, (lo, en.length :: sk, en ++ [(0, (n : Int), (n : Int))], kn, fc, co))] else none) else none)
      | _ => none
abbrev rk_Er : Type := Nat → Int → Int → Option rk_AV
/-- tg 1: ints; 2: references -/
def rk_ald (nE pc tg : Nat) (K : Nat → rk_KD) (ER : rk_Er) (S : rk_St) : rk_Sc := match S with
  | (lo, sk, en, kn, fc, co) => match sk with
    | [] => none
    | i :: sk => match sk with
      | [] => none
      | y :: sk => match en[i]? with
        | none => none
        | some ti => match en[y]? with
          | some (2, k, _) => (match rk_iv ti with
            | none => none
            | some (a, b) => match ER k.toNat a b with
              | none => none
              | some t => if Nat.beq (K k.toNat).1 tg && (decide (0 ≤ a) && (decide (b < ((K k.toNat).2.1 : Int)) && rk_wf nE S)) then (match rk_kn y (1000000 + i) kn with
                | some v => some [(pc + 1, (lo, v :: sk, en, kn, fc, co))]
                | none => some [(pc + 1, (lo, en.length :: sk, en ++ [t], (y, 1000000 + i, en.length) :: kn, fc, co))]) else none)
          | _ => none
def rk_ast (wr : rk_Wr) (pc tg : Nat) (K : Nat → rk_KD) (ER : rk_Er) (ap : Nat × Nat) (S : rk_St) : rk_Sc := match S with
  | (lo, sk, en, kn, fc, co) => match sk with
    | [] => none
    | v :: sk => match sk with
      | [] => none
      | i :: sk => match sk with
        | [] => none
        | y :: sk => match en[v]? with
          | none => none
          | some tv => match en[i]? with
            | none => none
            | some ti => match en[y]? with
              | some (2, k, _) => (match rk_iv ti with
                | none => none
                | some (a, b) => match ER k.toNat a b with
                  | none => none
                  | some t => match rk_dc tv t with
                    | none => none
                    | some d => if Nat.beq (K k.toNat).1 tg && (decide (0 ≤ a) && (decide (b < ((K k.toNat).2.1 : Int)) && (decide (co + d ≤ 10000000) && (rk_aOk tg K ap k.toNat tv && wr k.toNat a b)))) then
                        some [(pc + 1, (lo, sk, en, kn.filter (fun q => Nat.blt q.2.1 1000000), fc, co + d))] else none)
              | _ => none
def rk_s2 (wr : rk_Wr) (nE : Nat) (K : Nat → rk_KD) (ER : rk_Er) (fl : rk_Fl) (ap : Nat × Nat) (pc : Nat) (ins : Instr) (S : rk_St) : rk_Sc := match ins with
  | .getfield i => rk_gf nE pc K fl i S
  | .putfield i => rk_pf wr pc K fl i S
  | .arraylength => rk_al nE pc K S
  | .iaload => rk_ald nE pc 1 K ER S
  | .aaload => rk_ald nE pc 2 K ER S
  | .iastore => rk_ast wr pc 1 K ER ap S
  | .aastore => rk_ast wr pc 2 K ER ap S
  | _ => none
section RKH
variable {p : Program} {l : Launch} {e : Env} {R : Room} {s : State} {m : MethodId} {args : Array Value} {below : List Frame} {meth : Method} {c : Code} {cm sm : Nat} {Q : State → Prop} {cc : ByteArray} {nE : Nat} {r0 : Nat → Value}
variable {Pf : (Nat → va_E) → Prop} {K : Nat → rk_KD} {E : Nat → Nat → rk_AV} {tys : List (ClassId × FieldType)} {D : va_G} {A : Nat → Prop} {H0 : Heap} {G : Nat → Option Nat} {L : List Nat} {nL : Nat} {X : Int}
/-- what the tables say of a field: its class, its place, how it may be stored -/
def rk_FlOk (s : State) (args : Array Value) (Ts : List Jvm.Cond) (own : String) (fl : rk_Fl) : Prop := ∀ (idx ci k w : Nat), fl idx = some (ci, k, w) → ∃ (C : String) (T : u_T) (N : Nat) (ty0 : Nat → FieldType), vwCl[ci]? = some (C, T, N) ∧ k < N ∧ (∀ z ∈ u_ws C T N, z ∈ Ts) ∧ (∀ j, j < N → parseFieldDescriptor (T j).2.2.1 = some (ty0 j)) ∧ (∀ a, a < N → ∀ b, b < N → a ≠ b → (T a).2.1 ≠ (T b).2.1) ∧
  ((Jvm.Cond.fieldLink own idx (T k).1 (T k).2.1 (T k).2.2.1).before args s = true ∨ ∃ host : String, (Jvm.Cond.fieldLinkNest own idx (T k).1 (T k).2.1 (T k).2.2.1 host).before args s = true) ∧
  (w < 3 → (T k).2.2.2 = false) ∧ (w = 0 → ty0 k = .int) ∧ (w = 1 → ty0 k = .boolean) ∧ (w = 2 → ∃ n, ty0 k = .object n)
theorem rk_typed {co : Int} {f : Nat → va_E} {H : Heap} {locs : List Loc} {a k : Nat} (h : rk_w (Pf, K, E, tys, D, A, H0, G, L, nL, X) co f H locs) (ha : G a = some k) (hk9 : (K k).1 ≠ 9) : ∃ q0 : Nat, (va_pl L f)[q0]? = some (a, f a) ∧ rk_cell K E tys G (X + co) k (f a) := by
  obtain ⟨hP, hD, hS, hT, -⟩ := h
  obtain ⟨h1, h2⟩ := hT.1 a k ha hk9
  obtain ⟨q0, hq⟩ := va_pl_get (X := []) (f := f) h1
  exact ⟨q0, hq, h2⟩
theorem rk_w_up {co d : Int} {f : Nat → va_E} {H H1 : Heap} {locs locs1 : List Loc} {a k q0 : Nat} {e : va_E} (h : rk_w (Pf, K, E, tys, D, A, H0, G, L, nL, X) co f H locs) (ha : G a = some k) (hk9 : (K k).1 ≠ 9) (hd : 0 ≤ d) (hq : (va_pl L f)[q0]? = some (a, f a)) (he : rk_cell K E tys G (X + (co + d)) k e) (hP1 : va_P D vwCl ((va_pl L f).set q0 (a, e)) H1) (hS1 : va_S A H0 H1 locs1) (hPf : Pf f → Pf (va_up f a e)) : rk_w (Pf, K, E, tys, D, A, H0, G, L, nL, X) (co + d) (va_up f a e) H1 locs1 := by
  obtain ⟨hP, hD, hS, hT, hPo⟩ := h
  have hL := (hT.1 a k ha hk9).1
  have e1 := va_pl_set (X := []) (e := e) hD hL hq
  have e2 : (va_pl L f).set q0 (a, e) = va_pl L (va_up f a e) := e1
  rw [e2] at hP1
  have hD1 : va_D A (va_pl L (va_up f a e)) := by
    rw [← e2]
    exact hD.set hq
  exact ⟨hP1, hD1, hS1, rk_TY_up (rk_TY_X (by omega) hT) ha he, hPf hPo⟩
theorem rk_s2_ok {wr : rk_Wr} (hPf : ∀ (f : Nat → va_E) (a k : Nat) (e : va_E) (x y : Int), wr k x y = true → G a = some k → rk_dif x y (f a) e → Pf f → Pf (va_up f a e)) (hx : p.tables.exec = Jvm.exec) (hb : c.code = cc) {own : String} (hown : s.vm.findClass own = some m.cls) {Ts : List Jvm.Cond} (hts : ∀ w ∈ Ts, w.before args s = true) (hK : va_K D vwCl tys s) {fl : rk_Fl} (hfl : rk_FlOk s args Ts own fl) {ER : rk_Er} (hER : ∀ k a b t, ER k a b = some t → ∀ j : Nat, a ≤ (j : Int) → (j : Int) ≤ b → E k j = t) {ap : Nat × Nat} (hap : ∀ cA C, tys[ap.1]? = some (cA, .object C) → ∃ q, vwCl[ap.2]? = some q ∧ q.1 = C) (hX : 0 ≤ X)
    {pc len : Nat} {ins : Instr} {S : rk_St} {out : List (Nat × rk_St)} (hdg : decode cc pc = .ok (ins, len)) (hlen : rk_lenOk ins len = true) (h : rk_s2 wr nE K ER fl ap pc ins S = some out) (hk : ∀ q ∈ out, rk_G p l e R s m args below meth c cm sm Q (Pf, K, E, tys, D, A, H0, G, L, nL, X) nE r0 q.1 q.2) : rk_G p l e R s m args below meth c cm sm Q (Pf, K, E, tys, D, A, H0, G, L, nL, X) nE r0 pc S := by
  intro r f H locs ls st hS
  obtain ⟨lo, sk, en, kn, fc, co⟩ := S
  have hco := hS.2.2.2.2.2.2.1
  have hw := hS.2.2.2.2.2.2.2
  have kone : ∀ n, Nat.beq len n = true → len = n := fun n h => Nat.beq_eq ▸ h
  have kald : ∀ tg : Nat, rk_ald nE pc tg K ER (lo, sk, en, kn, fc, co) = some out → ∃ (a : Nat) (i : Int32) (st' : List Value) (t : rk_AV) (k : Nat), st = .int i :: .ref a :: st' ∧ G a = some k ∧ (K k).1 = tg ∧ 0 ≤ i.toInt ∧ i.toInt < ((K k).2.1 : Int) ∧ E k i.toNatClampNeg = t ∧ ∀ v, rk_has G (X + co) t v → rk_elt (f a) (.int i) = some v → W p l e R s m args below meth c H locs cm sm Q (F0 m (pc + 1) ls (v :: st')) := by
    intro tg h
    rcases sk with _ | ⟨i, _ | ⟨y, sk'⟩⟩
    · simp [rk_ald] at h
    · simp [rk_ald] at h
    · simp only [rk_ald] at h
      split at h
      · cases h
      · rename_i ti hti
        split at h
        · rename_i k z hty
          split at h
          · cases h
          · rename_i a b hab
            split at h
            · cases h
            · rename_i t ht
              split at h
              · rename_i hok
                simp only [Bool.and_eq_true, Nat.beq_eq, decide_eq_true_eq] at hok
                obtain ⟨g1, g2, g3, g4⟩ := hok
                obtain ⟨ix, ei, q1, q2⟩ := rk_iv_ok hab (rk_val hS hti)
                obtain ⟨aa, ea, hg⟩ := rk_val hS hty
                obtain ⟨st1, d1, hS1⟩ := rk_pop hS
                obtain ⟨st2, d2, hS2⟩ := rk_pop hS1
                obtain ⟨n, en1, en2, en3⟩ := rk_nI (x := ix) (by omega)
                have hcl : ix.toNatClampNeg = n := by rw [en1]; exact nI_clamp en3
                refine ⟨aa, ix, st2, t, k.toNat, by rw [d1, d2, ei, ea], hg, g1, by omega, by omega, by rw [hcl]; exact hER _ _ _ _ ht n (by omega) (by omega), fun v hv hel => ?_⟩
                have li : i < en.length := (List.getElem?_eq_some_iff.mp hti).1
                have ly : y < en.length := (List.getElem?_eq_some_iff.mp hty).1
                split at h
                · rename_i vv hkn
                  cases h
                  have hmem := rk_kn_ok kn hkn
                  obtain ⟨a', e1, e2⟩ := hS.2.1 _ hmem
                  dsimp only at e1 e2
                  rw [ea] at e1
                  cases e1
                  unfold rk_kf at e2
                  rw [if_neg (by omega), Nat.add_sub_cancel_left, ei, hel] at e2
                  cases e2
                  exact hk _ (List.mem_singleton.mpr rfl) r f H locs ls _ (rk_push vv hS2)
                · cases h
                  obtain ⟨r', e0, e1, hS'⟩ := rk_fresh hS g4 v
                  obtain ⟨st3, d3, hS3⟩ := rk_pop hS'
                  obtain ⟨st4, d4, hS4⟩ := rk_pop hS3
                  have e5 : st4 = st2 := by
                    rw [d1, d2] at d3
                    rw [d4] at d3
                    simp only [List.cons.injEq] at d3
                    exact d3.2.2.symm
                  have h5 := rk_push en.length (rk_addk (q := (y, 1000000 + i, en.length)) (rk_enter (t := t) hS4 (by rw [e0]; exact hv)) ⟨aa, by rw [e1 y ly]; exact ea, by
                    dsimp only
                    unfold rk_kf
                    rw [if_neg (by omega), Nat.add_sub_cancel_left, e1 i li, ei, e0]
                    exact hel⟩)
                  rw [e0, e5] at h5
                  exact hk _ (List.mem_singleton.mpr rfl) r' f H locs ls _ h5
              · cases h
        · cases h
  have kast : ∀ tg : Nat, rk_ast wr pc tg K ER ap (lo, sk, en, kn, fc, co) = some out → ∃ (wx wy : Int) (a : Nat) (i : Int32) (v : Value) (st' : List Value) (t tv : rk_AV) (d : Int) (k : Nat), (wr k wx wy = true ∧ wx ≤ i.toInt ∧ i.toInt ≤ wy) ∧ st = v :: .int i :: .ref a :: st' ∧ G a = some k ∧ (K k).1 = tg ∧ 0 ≤ i.toInt ∧ i.toInt < ((K k).2.1 : Int) ∧ E k i.toNatClampNeg = t ∧ 0 ≤ d ∧ rk_has G (X + (co + d)) t v ∧ rk_has G (X + co) tv v ∧ (if Nat.beq tg 1 then rk_isI tv = true else (K k).2.2.1 = ap.1 ∧ tv.1 = 2 ∧ (K tv.2.1.toNat).1 = 0 ∧ (K tv.2.1.toNat).2.1 = ap.2) ∧
      ∀ (f1 : Nat → va_E) (H1 : Heap) (locs1 : List Loc), rk_w (Pf, K, E, tys, D, A, H0, G, L, nL, X) (co + d) f1 H1 locs1 → (∀ b j, rk_fld (f1 b) j = rk_fld (f b) j) → W p l e R s m args below meth c H1 locs1 cm sm Q (F0 m (pc + 1) ls st') := by
    intro tg h
    rcases sk with _ | ⟨v, _ | ⟨i, _ | ⟨y, sk'⟩⟩⟩
    · simp [rk_ast] at h
    · simp [rk_ast] at h
    · simp [rk_ast] at h
    · simp only [rk_ast] at h
      split at h
      · cases h
      · rename_i tv htv
        split at h
        · cases h
        · rename_i ti hti
          split at h
          · rename_i k z hty
            split at h
            · cases h
            · rename_i a b hab
              split at h
              · cases h
              · rename_i t ht
                split at h
                · cases h
                · rename_i d hd
                  split at h
                  · rename_i hok
                    simp only [Bool.and_eq_true, Nat.beq_eq, decide_eq_true_eq] at hok
                    obtain ⟨g1, g2, g3, g4, g5, g5m⟩ := hok
                    cases h
                    have hvv := rk_val hS htv
                    obtain ⟨hd0, hdv⟩ := rk_dc_ok (X := X + co) (by omega) hd hvv
                    obtain ⟨ix, ei, q1, q2⟩ := rk_iv_ok hab (rk_val hS hti)
                    obtain ⟨aa, ea, hg⟩ := rk_val hS hty
                    obtain ⟨st0, d0, hS0⟩ := rk_pop hS
                    obtain ⟨st1, d1, hS1⟩ := rk_pop hS0
                    obtain ⟨st2, d2, hS2⟩ := rk_pop hS1
                    obtain ⟨n, en1, en2, en3⟩ := rk_nI (x := ix) (by omega)
                    have hcl : ix.toNatClampNeg = n := by rw [en1]; exact nI_clamp en3
                    have hdv2 : rk_has G (X + (co + d)) t (r v) := by
                      have : X + co + d = X + (co + d) := by omega
                      rw [← this]
                      exact hdv
                    refine ⟨a, b, aa, ix, r v, st2, t, tv, d, k.toNat, ⟨g5m, by omega, by omega⟩, by rw [d0, d1, d2, ei, ea], hg, g1, by omega, by omega, by rw [hcl]; exact hER _ _ _ _ ht n (by omega) (by omega), hd0, hdv2, hvv, ?_, fun f1 H1 locs1 hw1 hfl1 => ?_⟩
                    · unfold rk_aOk at g5
                      split at g5
                      · rename_i htg
                        rw [if_pos htg]
                        exact g5
                      · rename_i htg
                        rw [if_neg htg]
                        simp only [Bool.and_eq_true, Nat.beq_eq] at g5
                        exact g5
                    · refine hk _ (List.mem_singleton.mpr rfl) r f1 H1 locs1 ls _ ?_
                      obtain ⟨h1, h2, h3, h4, h5, h6, h7, h8⟩ := hS2
                      exact ⟨fun y' t' ht' => rk_has_X (by
                        show X + co ≤ X + (co + d)
                        omega) (h1 y' t' ht'), fun q hq => by
                          obtain ⟨hq1, hq2⟩ := List.mem_filter.mp hq
                          rw [Nat.blt_eq] at hq2
                          obtain ⟨b1, b2, b3⟩ := h2 q hq1
                          refine ⟨b1, b2, ?_⟩
                          unfold rk_kf at b3 ⊢
                          rw [if_pos hq2] at b3 ⊢
                          rw [hfl1]
                          exact b3, h3, h4, h5, h6, ⟨by omega, by omega⟩, hw1⟩
                  · cases h
          · cases h
  cases ins with
  | getfield idx =>
    have := kone _ hlen; subst this
    rcases sk with _ | ⟨y, sk'⟩
    · simp [rk_s2, rk_gf] at h
    · simp only [rk_s2, rk_gf] at h
      split at h
      · rename_i k z hty
        split at h
        · cases h
        · rename_i ci i w hfi
          split at h
          · rename_i cj z2 ts hKk
            split at h
            · rename_i hcc
              rw [Bool.and_eq_true, Nat.beq_eq, Nat.blt_eq] at hcc
              obtain ⟨hcc, hi6⟩ := hcc
              subst hcc
              obtain ⟨a, ea, hg⟩ := rk_val hS hty
              obtain ⟨st1, d1, hS1⟩ := rk_pop hS
              subst d1
              rw [ea]
              obtain ⟨q0, hq0, hcell⟩ := rk_typed hw hg (by rw [hKk]; dsimp only; omega)
              unfold rk_cell at hcell
              rw [hKk] at hcell
              obtain ⟨fs, hfs, hfl0, hft⟩ := hcell
              rw [hfs] at hq0
              obtain ⟨C, T, N, ty0, hC, hkN, hin, hty0, hnm, hlink, -⟩ := hfl _ _ _ _ hfi
              have go : ∀ v : Value, fs[i]? = some v → W p l e R s m args below meth c H locs cm sm Q (F0 m (pc + 3) ls (v :: st1)) → W p l e R s m args below meth c H locs cm sm Q (F0 m pc ls (.ref a :: st1)) := by
                intro v hv kk
                rcases hlink with hl | ⟨host, hl⟩
                · exact va_get hx hb hts hin hown hK hw.1 q0 hq0 hC i hkN hl (fun _ h9 => h9) hv hdg kk
                · exact va_getN hx hb hts hin hown hK hw.1 q0 hq0 hC i hkN hl (fun _ h9 => h9) hv hdg kk
              split at h
              · rename_i v hkn
                cases h
                have hmem := rk_kn_ok kn hkn
                obtain ⟨a', e1, e2⟩ := hS.2.1 _ hmem
                dsimp only at e1 e2
                rw [ea] at e1
                cases e1
                rw [hfs] at e2
                unfold rk_kf at e2
                rw [if_pos hi6] at e2
                exact go _ e2 (hk _ (List.mem_singleton.mpr rfl) r f H locs ls _ (rk_push v hS1))
              · split at h
                · cases h
                · rename_i t ht
                  split at h
                  · rename_i hwf
                    cases h
                    have hlt : i < fs.length := by rw [hfl0]; exact (List.getElem?_eq_some_iff.mp ht).1
                    have hv : fs[i]? = some fs[i] := List.getElem?_eq_getElem hlt
                    refine go _ hv ?_
                    obtain ⟨r', e0, e1, hS'⟩ := rk_fresh hS hwf fs[i]
                    obtain ⟨st3, d3, hS3⟩ := rk_pop hS'
                    have ly : y < en.length := (List.getElem?_eq_some_iff.mp hty).1
                    have e5 : st3 = st1 := by
                      simp only [List.cons.injEq] at d3
                      exact d3.2.symm
                    have h5 := rk_push en.length (rk_addk (q := (y, i, en.length)) (rk_enter (t := t) hS3 (by rw [e0]; exact hft i t _ ht hv)) ⟨a, by rw [e1 y ly]; exact ea, by
                      dsimp only
                      unfold rk_kf
                      rw [if_pos hi6, hfs, e0]
                      exact hv⟩)
                    rw [e0, e5] at h5
                    exact hk _ (List.mem_singleton.mpr rfl) r' f H locs ls _ h5
                  · cases h
            · cases h
          · cases h
      · cases h
  | putfield idx =>
    have := kone _ hlen; subst this
    rcases sk with _ | ⟨v, _ | ⟨y, sk'⟩⟩
    · simp [rk_s2, rk_pf] at h
    · simp [rk_s2, rk_pf] at h
    · simp only [rk_s2, rk_pf] at h
      split at h
      · cases h
      · rename_i tv htv
        split at h
        · rename_i k z hty
          split at h
          · cases h
          · rename_i ci i w hfi
            split at h
            · rename_i cj z2 ts hKk
              split at h
              · rename_i hcc
                rw [Bool.and_eq_true, Nat.beq_eq, Nat.blt_eq] at hcc
                obtain ⟨hcc, hi6⟩ := hcc
                subst hcc
                split at h
                · cases h
                · rename_i t ht
                  split at h
                  · cases h
                  · rename_i d hd
                    split at h
                    · rename_i hok
                      simp only [Bool.and_eq_true, decide_eq_true_eq] at hok
                      obtain ⟨g1, g2, g2m⟩ := hok
                      cases h
                      have hvv := rk_val hS htv
                      obtain ⟨hd0, hdv⟩ := rk_dc_ok (X := X + co) (by omega) hd hvv
                      have hdv2 : rk_has G (X + (co + d)) t (r v) := by
                        have : X + co + d = X + (co + d) := by omega
                        rw [← this]
                        exact hdv
                      obtain ⟨a, ea, hg⟩ := rk_val hS hty
                      obtain ⟨st0, d0, hS0⟩ := rk_pop hS
                      obtain ⟨st1, d1, hS1⟩ := rk_pop hS0
                      subst d0
                      subst d1
                      rw [ea]
                      obtain ⟨q0, hq0, hcell⟩ := rk_typed hw hg (by rw [hKk]; dsimp only; omega)
                      unfold rk_cell at hcell
                      rw [hKk] at hcell
                      obtain ⟨fs, hfs, hfl0, hft⟩ := hcell
                      have hq1 := hq0
                      rw [hfs] at hq1
                      obtain ⟨C, T, N, ty0, hC, hkN, hin, hty0, hnm, hlink, hf3, hf0, hf1, hf2⟩ := hfl _ _ _ _ hfi
                      have hlt : i < fs.length := by rw [hfl0]; exact (List.getElem?_eq_some_iff.mp ht).1
                      have kfit : w < 3 ∧ narrow (ty0 i) (r v) = r v ∧ fits (ty0 i) (r v) = true := by
                        unfold rk_wOk at g2
                        split at g2
                        · rename_i hw0
                          rw [Nat.beq_eq] at hw0
                          subst hw0
                          obtain ⟨x, ex⟩ := rk_isI_ok g2 hvv
                          rw [hf0 rfl, ex]
                          exact ⟨by omega, rfl, rfl⟩
                        · split at g2
                          · rename_i hw1
                            rw [Nat.beq_eq] at hw1
                            subst hw1
                            obtain ⟨x, ex, p1, p2⟩ := rk_le_ok (X := X + co) (by omega) g2 hvv
                            rw [hf1 rfl, ex]
                            have hx01 : x = 0 ∨ x = 1 := by
                              rcases (by omega : x.toInt = 0 ∨ x.toInt = 1) with h0 | h0
                              · exact Or.inl (Int32.toInt_inj.mp h0)
                              · exact Or.inr (Int32.toInt_inj.mp h0)
                            rcases hx01 with rfl | rfl
                            · exact ⟨by omega, rfl, rfl⟩
                            · exact ⟨by omega, rfl, rfl⟩
                          · split at g2
                            · rename_i hw2
                              rw [Nat.beq_eq] at hw2
                              subst hw2
                              obtain ⟨n, hn⟩ := hf2 rfl
                              rw [hn]
                              rcases rk_isR_ok g2 hvv with ex | ⟨b, ex⟩
                              · rw [ex]; exact ⟨by omega, rfl, rfl⟩
                              · rw [ex]; exact ⟨by omega, rfl, rfl⟩
                            · cases g2
                      have kk : ∀ (H1 : Heap) (locs1 : List Loc), va_P D vwCl ((va_pl L f).set q0 (a, .inr (ci, fs.set i (r v)))) H1 → va_D A ((va_pl L f).set q0 (a, .inr (ci, fs.set i (r v)))) → va_S A H0 H1 locs1 → W p l e R s m args below meth c H1 locs1 cm sm Q (F0 m (pc + 3) ls st1) := by
                        intro H1 locs1 hP1 hD1 hS9
                        have hcell2 : rk_cell K E tys G (X + (co + d)) k.toNat (.inr (ci, fs.set i (r v))) := by
                          unfold rk_cell
                          rw [hKk]
                          refine ⟨_, rfl, by rw [List.length_set]; exact hfl0, fun j t' v' hj hv' => ?_⟩
                          by_cases hji : j = i
                          · subst hji
                            rw [List.getElem?_set_self hlt] at hv'
                            cases hv'
                            rw [ht] at hj
                            cases hj
                            exact hdv2
                          · rw [List.getElem?_set_ne (Ne.symm hji)] at hv'
                            exact rk_has_X (by omega) (hft j t' v' hj hv')
                        have hw1 := rk_w_up (d := d) hw hg (by rw [hKk]; dsimp only; omega) hd0 hq0 hcell2 hP1 hS9 (hPf _ _ _ _ _ _ g2m hg (Or.inl ⟨ci, fs, i, r v, hfs, rfl, Int.le_refl _, Int.le_refl _⟩))
                        refine hk _ (List.mem_singleton.mpr rfl) r (va_up f a (.inr (ci, fs.set i (r v)))) H1 locs1 ls _ ?_
                        obtain ⟨h1, h2, h3, h4, h5, h6, h7, h8⟩ := hS1
                        refine ⟨fun y' t' ht' => rk_has_X (by
                          show X + co ≤ X + (co + d)
                          omega) (h1 y' t' ht'), fun q hq => ?_, h3, h4, h5, h6, ⟨by omega, by omega⟩, hw1⟩
                        rcases List.mem_cons.mp hq with rfl | hq
                        · refine ⟨a, ea, ?_⟩
                          dsimp only
                          unfold rk_kf
                          rw [if_pos hi6, va_up_self]
                          exact List.getElem?_set_self hlt
                        · obtain ⟨hq1, hq2⟩ := List.mem_filter.mp hq
                          obtain ⟨b, e1, e2⟩ := h2 q hq1
                          refine ⟨b, e1, ?_⟩
                          by_cases hba : b = a
                          · subst hba
                            rw [va_up_self]
                            rw [hfs] at e2
                            have hne : ¬ q.2.1 = i := by
                              intro h0
                              rw [h0] at hq2
                              simp at hq2
                            unfold rk_kf at e2 ⊢
                            split
                            · rename_i h6
                              rw [if_pos h6] at e2
                              show (fs.set i (r v))[q.2.1]? = _
                              rw [List.getElem?_set_ne (Ne.symm hne)]
                              exact e2
                            · rename_i h6
                              rw [if_neg h6] at e2
                              cases e2
                          · rw [va_up_ne _ _ hba]
                            exact e2
                      rcases hlink with hl | ⟨host, hl⟩
                      · exact va_put hx hb hts hin ty0 hty0 hnm hown hK hw.1 hw.2.1 hw.2.2.1 q0 hq1 hC i hkN hl (fun _ h9 => h9) (hf3 kfit.1) (hty0 i hkN) kfit.2.1 kfit.2.2 hlt hdg kk
                      · exact va_putN hx hb hts hin ty0 hty0 hnm hown hK hw.1 hw.2.1 hw.2.2.1 q0 hq1 hC i hkN hl (fun _ h9 => h9) (hf3 kfit.1) (hty0 i hkN) kfit.2.1 kfit.2.2 hlt hdg kk
                    · cases h
              · cases h
            · cases h
        · cases h
  | arraylength =>
    have := kone _ hlen; subst this
    rcases sk with _ | ⟨y, sk'⟩
    · simp [rk_s2, rk_al] at h
    · simp only [rk_s2, rk_al] at h
      split at h
      · rename_i k z hty
        split at h
        · cases h
        · rename_i tg n t0 ts hno hKk
          split at h
          · rename_i hn
            rw [Bool.and_eq_true, Nat.blt_eq, Nat.blt_eq] at hn
            split at h
            · rename_i hwf
              cases h
              obtain ⟨a, ea, hg⟩ := rk_val hS hty
              obtain ⟨st1, d1, hS1⟩ := rk_pop hS
              subst d1
              rw [ea]
              obtain ⟨q0, hq0, hcell⟩ := rk_typed hw hg (by rw [hKk]; dsimp only; omega)
              unfold rk_cell at hcell
              rw [hKk] at hcell
              have hval : (Int32.ofNat n).toInt = (n : Int) := nI_toInt (by omega)
              have kk : W p l e R s m args below meth c H locs cm sm Q (F0 m (pc + 1) ls (.int (Int32.ofNat n) :: st1)) := by
                obtain ⟨r', e0, e1, hS'⟩ := rk_fresh hS hwf (.int (Int32.ofNat n))
                obtain ⟨st3, d3, hS3⟩ := rk_pop hS'
                have e5 : st3 = st1 := by
                  simp only [List.cons.injEq] at d3
                  exact d3.2.symm
                have h5 := rk_push en.length (rk_enter (t := (0, (n : Int), (n : Int))) hS3 (by rw [e0]; exact ⟨_, rfl, by omega, by omega⟩))
                rw [e0, e5] at h5
                exact hk _ (List.mem_singleton.mpr rfl) r' f H locs ls _ h5
              rcases tg with _ | _ | tg
              · exact (hno rfl).elim
              · obtain ⟨cA, g, hf, ht, -⟩ := hcell
                rw [hf] at hq0
                exact va_alen hx hb hK hw.1 q0 0 hq0 ht rfl hdg kk
              · obtain ⟨cA, C, g, hf, ht, -⟩ := hcell
                rw [hf] at hq0
                exact va_alen hx hb hK hw.1 q0 t0 hq0 ht rfl hdg kk
            · cases h
          · cases h
      · cases h
  | iaload =>
    have := kone _ hlen; subst this
    obtain ⟨a, i, st', t, k, d1, hg, g1, g2, g3, g4, kk⟩ := kald 1 h
    subst d1
    obtain ⟨q0, hq0, hcell⟩ := rk_typed hw hg (by rw [g1]; decide)
    unfold rk_cell at hcell
    generalize hKk : K k = kd at hcell g1 g3
    obtain ⟨tg, n, t0, ts⟩ := kd
    dsimp only at g1 g3
    subst g1
    obtain ⟨cA, g, hf, ht, hr⟩ := hcell
    rw [hf] at hq0
    obtain ⟨m', e1, e2, e3⟩ := rk_nI g2
    have hcl : i.toNatClampNeg = m' := by rw [e1]; exact nI_clamp e3
    refine va_iald hx hb hK hw.1 q0 0 hq0 ht (vp_in_iff.mpr ⟨g2, g3⟩) hdg (kk _ ?_ (by rw [hf]; rfl))
    rw [← g4, hcl]
    exact hr m' (by omega)
  | aaload =>
    have := kone _ hlen; subst this
    obtain ⟨a, i, st', t, k, d1, hg, g1, g2, g3, g4, kk⟩ := kald 2 h
    subst d1
    obtain ⟨q0, hq0, hcell⟩ := rk_typed hw hg (by rw [g1]; decide)
    unfold rk_cell at hcell
    generalize hKk : K k = kd at hcell g1 g3
    obtain ⟨tg, n, t0, ts⟩ := kd
    dsimp only at g1 g3
    subst g1
    obtain ⟨cA, C, g, hf, ht, hr⟩ := hcell
    rw [hf] at hq0
    obtain ⟨m', e1, e2, e3⟩ := rk_nI g2
    have hcl : i.toNatClampNeg = m' := by rw [e1]; exact nI_clamp e3
    refine va_aldq hx hb hK hw.1 q0 t0 hq0 ht (vp_in_iff.mpr ⟨g2, g3⟩) hdg (kk _ ?_ (by rw [hf]; rfl))
    rw [← g4, hcl]
    exact hr m' (by omega)
  | iastore =>
    have := kone _ hlen; subst this
    obtain ⟨wx, wy, a, i, v, st', t, tv, d, k, ⟨hwr, hwx, hwy⟩, d1, hg, g1, g2, g3, g4, g5, g6, g7, g8, kk⟩ := kast 1 h
    subst d1
    obtain ⟨q0, hq0, hcell⟩ := rk_typed hw hg (by rw [g1]; decide)
    have hcell0 := hcell
    unfold rk_cell at hcell
    generalize hKk : K k = kd at hcell g1 g3
    obtain ⟨tg, n, t0, ts⟩ := kd
    dsimp only at g1 g3
    subst g1
    obtain ⟨cA, g, hf, ht, hr⟩ := hcell
    have hq1 := hq0
    rw [hf] at hq1
    obtain ⟨m', e1, e2, e3⟩ := rk_nI g2
    have hcl : i.toNatClampNeg = m' := by rw [e1]; exact nI_clamp e3
    obtain ⟨x, ex⟩ := rk_isI_ok g8 g7
    subst ex
    refine va_iast hx hb hK hw.1 hw.2.1 hw.2.2.1 q0 0 hq1 ht (vp_in_iff.mpr ⟨g2, g3⟩) hdg (fun H1 locs1 hP1 hD1 hS1 => ?_)
    refine kk (va_up f a (.inl (cA, n, .inl (upd g i.toNatClampNeg x)))) H1 locs1 (rk_w_up (d := d) hw hg (by rw [hKk]; dsimp only; omega) g5 hq0 ?_ hP1 hS1 (hPf _ _ _ _ _ _ hwr hg (Or.inr (Or.inl ⟨cA, n, g, _, hf, rfl, fun j hj => pk_un (by rw [hcl]; omega)⟩)))) (fun b j => ?_)
    · unfold rk_cell
      rw [hKk]
      refine ⟨cA, _, rfl, ht, fun j hj => ?_⟩
      by_cases hji : j = i.toNatClampNeg
      · subst hji
        rw [pk_us, g4]
        exact g6
      · rw [pk_un hji]
        exact rk_has_X (by omega) (hr j hj)
    · by_cases hba : b = a
      · subst hba
        rw [va_up_self, hf]
        rfl
      · rw [va_up_ne _ _ hba]
  | aastore =>
    have := kone _ hlen; subst this
    obtain ⟨wx, wy, a, i, v, st', t, tv, d, k, ⟨hwr, hwx, hwy⟩, d1, hg, g1, g2, g3, g4, g5, g6, g7, g8, kk⟩ := kast 2 h
    subst d1
    obtain ⟨q0, hq0, hcell⟩ := rk_typed hw hg (by rw [g1]; decide)
    have hcell0 := hcell
    unfold rk_cell at hcell
    have g8 : (K k).2.2.1 = ap.1 ∧ tv.1 = 2 ∧ (K tv.2.1.toNat).1 = 0 ∧ (K tv.2.1.toNat).2.1 = ap.2 := g8
    generalize hKk : K k = kd at hcell g1 g3 g8
    obtain ⟨tg, n, t0, ts⟩ := kd
    dsimp only at g1 g3 g8
    subst g1
    obtain ⟨cA, C, g, hf, ht, hr⟩ := hcell
    have hq1 := hq0
    rw [hf] at hq1
    obtain ⟨m', e1, e2, e3⟩ := rk_nI g2
    have hcl : i.toNatClampNeg = m' := by rw [e1]; exact nI_clamp e3
    obtain ⟨g81, g82, g83, g84⟩ := g8
    obtain ⟨tt, tk, tz⟩ := tv
    dsimp only at g82 g83 g84
    subst g82
    obtain ⟨b, eb, hgb⟩ := g7
    subst eb
    obtain ⟨qk, hqk, hcb⟩ := rk_typed hw hgb (by rw [g83]; decide)
    unfold rk_cell at hcb
    generalize hKb : K tk.toNat = kb at hcb g83 g84
    obtain ⟨tb, cb, tb0, tbs⟩ := kb
    dsimp only at g83 g84
    subst g83
    obtain ⟨fs, hfs, -⟩ := hcb
    rw [hfs] at hqk
    rw [g81] at ht
    obtain ⟨q, hq, hqC⟩ := hap cA C ht
    rw [← g84] at hq
    rw [← g81] at ht
    subst hqC
    refine va_astq hx hb hK hw.1 hw.2.1 hw.2.2.1 q0 t0 qk cb hq1 ht hqk hq (vp_in_iff.mpr ⟨g2, g3⟩) hdg (fun H1 locs1 hP1 hD1 hS1 => ?_)
    refine kk (va_up f a (.inl (cA, n, .inr (.inr (.inr (.inr (va_up g i.toNatClampNeg (some b)))))))) H1 locs1 (rk_w_up (d := d) hw hg (by rw [hKk]; dsimp only; omega) g5 hq0 ?_ hP1 hS1 (hPf _ _ _ _ _ _ hwr hg (Or.inr (Or.inr ⟨cA, n, g, _, hf, rfl, fun j hj => va_up_ne _ _ (by rw [hcl]; omega)⟩)))) (fun b' j => ?_)
    · unfold rk_cell
      rw [hKk]
      refine ⟨cA, _, _, rfl, ht, fun j hj => ?_⟩
      by_cases hji : j = i.toNatClampNeg
      · subst hji
        rw [va_up_self, g4]
        exact g6
      · rw [va_up_ne _ _ hji]
        exact rk_has_X (by omega) (hr j hj)
    · by_cases hba : b' = a
      · subst hba
        rw [va_up_self, hf]
        rfl
      · rw [va_up_ne _ _ hba]
  | _ => simp [rk_s2] at h
end RKH
end
section
/-! contracts, calls, returns -/
abbrev rk_Alt : Type := rk_AV × List (Nat × rk_AV)
abbrev rk_Mt : Type := MethodName × ByteArray × Nat × Option FieldType × Nat × Nat
/-- the tables' words that stay -/
def rk_tbl : List Jvm.Cond := lw_tbl.filter goodWord
def rk_ws (M : rk_Mt) : List Jvm.Cond := Jvm.Cond.code M.1 M.2.1 M.2.2.1 M.2.2.2.1 :: rk_tbl
theorem rk_good {M : rk_Mt} {big : List Jvm.Cond} (hb : ∀ w ∈ rk_tbl, w ∈ big) (hc : Jvm.Cond.code M.1 M.2.1 M.2.2.1 M.2.2.2.1 ∈ rk_tbl) : GoodIn big (rk_ws M) := by
  have key : ∀ w ∈ rk_tbl, w ∈ big ∧ ((w.onTables && w.keeps) = true ∨ ∃ ty, w = .arrayClass ty) := fun w h => ⟨hb w h, good_of_word (List.mem_filter.mp h).2⟩
  intro w hw
  rcases List.mem_cons.mp hw with rfl | hw
  · exact key _ hc
  · exact key w hw
/-- the nest's words: they hold in every state that a walk comes to -/
def rk_N (nf : List (String × Nat × String × String × String × String)) (nm : List (String × Nat × MethodName × String)) (U : State) : Prop := (∀ q ∈ nf, va_Nw (.fieldLinkNest q.1 q.2.1 q.2.2.1 q.2.2.2.1 q.2.2.2.2.1 q.2.2.2.2.2) U) ∧ ∀ q ∈ nm, va_Nw (.methodLinkNest q.1 q.2.1 q.2.2.1 q.2.2.2) U
theorem rk_N_warm {nf : List (String × Nat × String × String × String × String)} {nm : List (String × Nat × MethodName × String)} {s U : State} (hW : s.WarmedH U.vm) (h : rk_N nf nm s) : rk_N nf nm U := ⟨fun q hq => va_Nw.warmF hW (h.1 q hq), fun q hq => va_Nw.warmM hW (h.2 q hq)⟩
theorem rk_N_same {nf : List (String × Nat × String × String × String × String)} {nm : List (String × Nat × MethodName × String)} {u U : State} (hv : u.vm = U.vm) (h : rk_N nf nm u) : rk_N nf nm U := ⟨fun q hq => va_Nw.same rfl hv (h.1 q hq), fun q hq => va_Nw.same rfl hv (h.2 q hq)⟩
def rk_Pre (D : va_G) (tys : List (ClassId × FieldType)) (NU : State → Prop) (L : List Nat) (f : Nat → va_E) (sz : Nat) : State → Prop := fun U => U.heap.size = sz ∧ va_P D vwCl (va_pl L f) U.heap ∧ va_K D vwCl tys U ∧ va_D (fun _ => True) (va_pl L f) ∧ NU U
def rk_Q (post : Option Value → (Nat → va_E) → Prop) (B : (Nat → va_E) → State → Prop) (A : Nat → Prop) : Array Value → State → Outcome → State → Prop := fun _ st oc t => (∃ (v : Option Value) (u : Nat → va_E), oc = .returned v ∧ post v u ∧ B u t) ∧ va_F A st t
/-- an answer is as one of the alternatives says -/
def rk_alt (G : Nat → Option Nat) (X : Int) (av : List Value) (alts : List rk_Alt) (v : Option Value) : Prop := ∃ a ∈ alts, (if a.1.1 = 9 then v = none else ∃ w, v = some w ∧ rk_has G X a.1 w) ∧ ∀ q ∈ a.2, ∃ w, av[q.1]? = some w ∧ rk_has G X q.2 w
def rk_all (G : Nat → Option Nat) (X : Int) (avs : List rk_AV) (av : List Value) : Prop := av.length = avs.length ∧ ∀ (i : Nat) (t : rk_AV) (v : Value), avs[i]? = some t → av[i]? = some v → rk_has G X t v
def rk_top : Int := 2000000000
/-- how two worlds stand to each other, by a level (a set of bits: what may have changed) -/
abbrev rk_Lvt : Type := (Nat → Option Nat) → Nat → (Nat → va_E) → (Nat → va_E) → Prop
/-- what a method wants of the world besides -/
abbrev rk_Pwt : Type := (Nat → Option Nat) → (Nat → va_E) → Prop
def rk_lle (n m : Nat) : Bool := Nat.beq (Nat.land n m) n
def rk_post (K : Nat → rk_KD) (E : Nat → Nat → rk_AV) (tys : List (ClassId × FieldType)) (G : Nat → Option Nat) (X : Int) (L : List Nat) (f : Nat → va_E) (av : List Value) (alts : List rk_Alt) (Lv : rk_Lvt) (lv : Nat) : Option Value → (Nat → va_E) → Prop := fun v u => rk_alt G X av alts v ∧ rk_TY K E tys G X L u ∧ Lv G lv f u
def rk_B (D : va_G) (tys : List (ClassId × FieldType)) (L : List Nat) (A : Nat → Prop) : (Nat → va_E) → State → Prop := fun u t => va_P D vwCl (va_pl L u) t.heap ∧ va_K D vwCl tys t ∧ va_D A (va_pl L u)
/-- THE CONTRACT of a method that makes nothing: from typed arguments and a typed world, an answer as the alternatives say, a typed world; the counters have grown by C at most -/
def rk_Met (base : Nat) (l : Launch) (K : Nat → rk_KD) (E : Nat → Nat → rk_AV) (tys : List (ClassId × FieldType)) (D : va_G) (NU : State → Prop) (Lv : rk_Lvt) (Pw : rk_Pwt) (M : rk_Mt) (avs : List rk_AV) (alts : List rk_Alt) (C : Int) (lv : Nat) : Prop :=
  ∀ (G : Nat → Option Nat) (X : Int) (L : List Nat) (f : Nat → va_E) (av : List Value) (sz : Nat), 0 ≤ X → X + C ≤ rk_top → rk_all G X avs av → rk_TY K E tys G X L f → Pw G f → (∀ a ∈ L, base ≤ a) → base ≤ sz →
    Met l M.1 (rk_ws M) { frames := M.2.2.2.2.1, cells := 0, slots := 0, locals := M.2.2.2.2.2 } (va_Pc av (rk_Pre D tys NU L f sz)) (rk_Q (rk_post K E tys G (X + C) L f av alts Lv lv) (rk_B D tys L (va_A (va_pl L f) sz)) (va_A (va_pl L f) sz)) 0 0 (va_A (va_pl L f) sz)
abbrev rk_Ctr : Type := Nat → List rk_AV → Option (List rk_Alt × Int × Nat)
abbrev rk_Ml : Type := Nat → Option (Nat × Nat × Nat)
def rk_avs (en : List rk_AV) : List Nat → Option (List rk_AV)
  | [] => some []
  | y :: l => match en[y]? with
    | none => none
    | some t => match rk_avs en l with
      | none => none
      | some ts => some (t :: ts)
theorem rk_avs_ok {en : List rk_AV} : ∀ (ys : List Nat) (ts : List rk_AV), rk_avs en ys = some ts → ts.length = ys.length ∧ ∀ (i y : Nat) (t : rk_AV), ys[i]? = some y → ts[i]? = some t → en[y]? = some t
  | [], ts, h => by
    cases h
    exact ⟨rfl, fun i y t h _ => by simp at h⟩
  | y :: l, ts, h => by
    unfold rk_avs at h
    split at h
    · cases h
    · rename_i t ht
      split at h
      · cases h
      · rename_i ts' hts
        cases h
        obtain ⟨h1, h2⟩ := rk_avs_ok l ts' hts
        refine ⟨by simp [h1], fun i z u hz hu => ?_⟩
        rcases i with _ | i
        · simp only [List.getElem?_cons_zero, Option.some.injEq] at hz hu
          subst hz hu
          exact ht
        · rw [List.getElem?_cons_succ] at hz hu
          exact h2 i z u hz hu
/-- both are known -/
def rk_meet (t u : rk_AV) : rk_AV := match t with
  | (0, a, b) => (match u with
    | (0, c, d) => (0, max a c, min b d)
    | (n + 1, w) => (n + 1, w))
  | (_ + 1, _) => u
theorem rk_meet_ok {G : Nat → Option Nat} {X : Int} {t u : rk_AV} {v : Value} (h1 : rk_has G X t v) (h2 : rk_has G X u v) : rk_has G X (rk_meet t u) v := by
  obtain ⟨n, a, b⟩ := t
  obtain ⟨m, c, d⟩ := u
  rcases n with _ | n
  · rcases m with _ | m
    · obtain ⟨x, rfl, p1, p2⟩ := h1
      obtain ⟨y, e, q1, q2⟩ := h2
      cases e
      exact ⟨x, rfl, by omega, by omega⟩
    · exact h2
  · exact h2
/-- the arguments' symbols as an alternative knows them -/
def rk_rfs (ys : List Nat) : List (Nat × rk_AV) → List rk_AV → List rk_AV
  | [], en => en
  | q :: l, en => match ys[q.1]? with
    | none => rk_rfs ys l en
    | some y => match en[y]? with
      | none => rk_rfs ys l en
      | some t => rk_rfs ys l (en.set y (rk_meet t q.2))
def rk_altS (pc : Nat) (lo : List (Nat × Nat)) (rest ys : List Nat) (en : List rk_AV) (kn : List (Nat × Nat × Nat)) (fc : List (Nat × Nat × Nat × Int)) (co : Int) (a : rk_Alt) : Nat × rk_St := if Nat.beq a.1.1 9 then (pc, (lo, rest, rk_rfs ys a.2 en, kn, fc, co)) else (pc, (lo, en.length :: rest, rk_rfs ys a.2 en ++ [a.1], kn, fc, co))
/-- a receiver of class cr - 1 (0: none is wanted) -/
def rk_rcv (K : Nat → rk_KD) (cr : Nat) (avs : List rk_AV) : Bool := match cr with
  | 0 => true
  | ci + 1 => match avs with
    | (2, k, _) :: _ => Nat.beq (K k.toNat).1 0 && Nat.beq (K k.toNat).2.1 ci
    | _ => false
def rk_inv (cap : List rk_AV → Int → Bool) (lv : Nat) (nE pc : Nat) (K : Nat → rk_KD) (ml : rk_Ml) (ctr : rk_Ctr) (idx : Nat) (virt : Bool) (S : rk_St) : rk_Sc := match S with
  | (lo, sk, en, kn, fc, co) => match ml idx with
    | none => none
    | some (z, n, cr) => match rk_avs en (sk.take n).reverse with
      | none => none
      | some avs => match ctr z avs with
        | none => none
        | some (alts, C, pu) => if Nat.ble n sk.length && (Nat.ble (sk.drop n).length 8 && ((virt != Nat.beq cr 0) && (rk_rcv K cr avs && (decide (0 ≤ C) && (decide (co + C ≤ 10000000) && (rk_wf nE S && (rk_lle pu lv && cap en (co + C)))))))) then
            some (alts.map (rk_altS (pc + 3) lo (sk.drop n) (sk.take n).reverse en (if Nat.beq pu 0 then kn else []) fc (co + C))) else none
section RKC
variable {p : Program} {l : Launch} {e : Env} {R : Room} {s : State} {m : MethodId} {args : Array Value} {below : List Frame} {meth : Method} {c : Code} {cm sm : Nat} {Q : State → Prop} {cc : ByteArray} {nE : Nat} {r0 : Nat → Value}
variable {Pf : (Nat → va_E) → Prop} {K : Nat → rk_KD} {E : Nat → Nat → rk_AV} {tys : List (ClassId × FieldType)} {D : va_G} {A : Nat → Prop} {H0 : Heap} {G : Nat → Option Nat} {L : List Nat} {nL : Nat} {X : Int}
theorem rk_callW {H : Heap} {locs : List Loc} {pc : Nat} {ls : Array Slot} {rest st0 : List Value} {a : Array Value} {A0 A1 : Nat → Prop} {free : Addr → Prop} {post : Option Value → (Nat → va_E) → Prop} {B : (Nat → va_E) → State → Prop} (hr : va_Run p l e R s m args below meth c H locs cm sm 0 0 (F0 m pc ls st0) rest (rk_Q post B A1 a) free) (hS : va_S A0 H0 H locs) (hA : ∀ q, q < H.size → A1 q → A0 q) (hf : ∀ q, free q → A0 q)
    (kk : ∀ (v : Option Value) (u : Nat → va_E) (t : State) (H1 : Heap) (locs1 : List Loc), t.heap = H1 → s.vm.Alike t.vm → post v u → B u t → va_S A0 H0 H1 locs1 → W p l e R s m args below meth c H1 locs1 cm sm Q (F0 m (pc + 3) ls (v.toList ++ rest))) : W p l e R s m args below meth c H locs cm sm Q (F0 m pc ls st0) := by
  intro T hT X
  obtain ⟨v, st₀, t, T', L, h0, X', hL, e1, e2, ⟨⟨v', u, hv, hp, hb⟩, hz, hk⟩, st⟩ := hr T hT X
  cases hv
  rw [h0] at hz hk
  obtain ⟨t2, a1, b1⟩ := kk v u t T'.heap (locs ++ L) e1.symm (by rw [← e2]; exact X'.warmed.alike) hp hb
    ⟨Nat.le_trans hS.1 (by rw [e1]; exact hz), fun q h1 h2 => by rw [e1, hk q (Nat.lt_of_lt_of_le h1 hS.1) (fun z => h2 (hA q (Nat.lt_of_lt_of_le h1 hS.1) z))]; exact hS.2.1 q h1 h2, fun q hq => by
      rcases List.mem_append.mp hq with h | h
      · exact hS.2.2 q h
      · exact hf _ (hL q h)⟩ T' rfl X'
  exact ⟨t2, st t2 a1, b1⟩
/-- what the tables say of a call -/
def rk_MlOk (s : State) (args : Array Value) (R : Room) (own : String) (mt : Nat → rk_Mt) (ml : rk_Ml) : Prop := ∀ (idx z n cr : Nat), ml idx = some (z, n, cr) → Jvm.Cond.code (mt z).1 (mt z).2.1 (mt z).2.2.1 (mt z).2.2.2.1 ∈ rk_tbl ∧ (Jvm.Cond.initialized (mt z).1.cls).before args s = true ∧ ((mt z).1.cls ≠ "java/lang/invoke/MethodHandle" ∧ (mt z).1.cls ≠ "java/lang/invoke/VarHandle") ∧
  ((Jvm.Cond.methodLink own idx (mt z).1).before args s = true ∨ ∃ host : String, va_Nw (.methodLinkNest own idx (mt z).1 host) s) ∧ ((mt z).2.2.2.2.1 + 1 ≤ R.frames ∧ 8 + ((mt z).2.2.1 + 11) + (mt z).2.2.2.2.2 ≤ R.locals) ∧
  (cr = 0 → (Jvm.Cond.static (mt z).1).before args s = true ∧ (parseMethodDescriptor (mt z).1.desc).map (fun d => d.parameters.length) = some n) ∧
  (∀ ci, cr = ci + 1 → (Jvm.Cond.instanceMethod (mt z).1).before args s = true ∧ (Jvm.Cond.selects (mt z).1.cls (mt z).1 (mt z).1).before args s = true ∧ (∃ q, vwCl[ci]? = some q ∧ q.1 = (mt z).1.cls) ∧ ∃ k, n = k + 1 ∧ (parseMethodDescriptor (mt z).1.desc).map (fun d => d.parameters.length) = some k)
theorem rk_rfs_len (ys : List Nat) : ∀ (l : List (Nat × rk_AV)) (en : List rk_AV), (rk_rfs ys l en).length = en.length
  | [], en => rfl
  | q :: l, en => by
    unfold rk_rfs
    split
    · exact rk_rfs_len ys l en
    · split
      · exact rk_rfs_len ys l en
      · rw [rk_rfs_len ys l, List.length_set]
theorem rk_rfs_ok {F : rk_Fx} {r : Nat → Value} {lo : List (Nat × Nat)} {sk : List Nat} {kn : List (Nat × Nat × Nat)} {fc : List (Nat × Nat × Nat × Int)} {co : Int} {f : Nat → va_E} {H : Heap} {locs : List Loc} {ls : Array Slot} {st : List Value} {ys : List Nat} : ∀ (q : List (Nat × rk_AV)) (en : List rk_AV), rk_on F nE r0 r (lo, sk, en, kn, fc, co) f H locs ls st → (∀ z ∈ q, ∀ y, ys[z.1]? = some y → rk_has (rk_fG F) (rk_fX F + co) z.2 (r y)) → rk_on F nE r0 r (lo, sk, rk_rfs ys q en, kn, fc, co) f H locs ls st
  | [], en, h, _ => h
  | z :: l, en, h, hz => by
    unfold rk_rfs
    split
    · exact rk_rfs_ok l en h (fun w hw => hz w (List.mem_cons_of_mem _ hw))
    · rename_i y hy
      split
      · exact rk_rfs_ok l en h (fun w hw => hz w (List.mem_cons_of_mem _ hw))
      · rename_i t ht
        exact rk_rfs_ok l _ (rk_ref h (rk_meet_ok (rk_val h ht) (hz z List.mem_cons_self y hy))) (fun w hw => hz w (List.mem_cons_of_mem _ hw))
set_option maxHeartbeats 1000000 in
theorem rk_inv_ok {cap : List rk_AV → Int → Bool} (hcap : ∀ (en : List rk_AV) (co X' : Int) (r : Nat → Value), (∀ y, y < nE → r y = r0 y) → (∀ y t, en[y]? = some t → rk_has G X' t (r y)) → cap en co = true → X + co ≤ rk_top) {Lv : rk_Lvt} {Pw : rk_Pwt} (hPw : ∀ u, Pf u → Pw G u) {lv : Nat} (hL0 : ∀ f u, Lv G 0 f u → u = f) (hPc : ∀ (n : Nat) (f u : Nat → va_E), rk_lle n lv = true → Lv G n f u → Pf f → Pf u) (hx : p.tables.exec = Jvm.exec) (hb : c.code = cc) (hml9 : c.maxLocals = nL) {own : String} (hown : s.vm.findClass own = some m.cls) {Ts : List Jvm.Cond} (hts : ∀ w ∈ Ts, w.before args s = true) (htb : ∀ w ∈ rk_tbl, w ∈ Ts) (hK : va_K D vwCl tys s) {NU : State → Prop} (hNs : NU s) (hNw : ∀ (U : State) (locs : List Loc), va_S A H0 U.heap locs → s.WarmedH U.vm → NU U) (hNc : ∀ u U : State, u.vm = U.vm → u.heap = U.heap → NU u → NU U) {base : Nat} {mt : Nat → rk_Mt} {ml : rk_Ml} (hml : rk_MlOk s args R own mt ml) {ctr : rk_Ctr} (hct : ∀ z avs alts C pu, ctr z avs = some (alts, C, pu) → rk_Met base l K E tys D NU Lv Pw (mt z) avs alts C pu) (hBL : ∀ a ∈ L, base ≤ a) (hB0 : base ≤ H0.size) (hA : ∀ q, H0.size ≤ q → A q) (hcm : cm ≤ R.cells ∧ sm ≤ R.slots) (hX : 0 ≤ X)
    {pc idx : Nat} {virt : Bool} {S : rk_St} {out : List (Nat × rk_St)} (hdg : decode cc pc = .ok (if virt then .invokevirtual idx else .invokestatic idx, 3)) (h : rk_inv cap lv nE pc K ml ctr idx virt S = some out) (hk : ∀ q ∈ out, rk_G p l e R s m args below meth c cm sm Q (Pf, K, E, tys, D, A, H0, G, L, nL, X) nE r0 q.1 q.2) : rk_G p l e R s m args below meth c cm sm Q (Pf, K, E, tys, D, A, H0, G, L, nL, X) nE r0 pc S := by
  intro r f H locs ls st hS
  obtain ⟨lo, sk, en, kn, fc, co⟩ := S
  have hco := hS.2.2.2.2.2.2.1
  have hw := hS.2.2.2.2.2.2.2
  simp only [rk_inv] at h
  split at h
  · cases h
  · rename_i z n cr hidx
    split at h
    · cases h
    · rename_i avs havs
      split at h
      · cases h
      · rename_i alts C pu hctr
        split at h
        · rename_i hok
          simp only [Bool.and_eq_true, Nat.ble_eq, decide_eq_true_eq] at hok
          obtain ⟨g1, g2, g3, g4, g5, g6, g7, g8, g9⟩ := hok
          have hcp := hcap en (co + C) _ r hS.2.2.2.2.2.1 hS.1 g9
          cases h
          obtain ⟨al, ao⟩ := rk_avs_ok _ _ havs
          have hst : st = sk.map r := hS.2.2.2.2.1
          have ets : st = ((sk.take n).reverse.map r).reverse ++ (sk.drop n).map r := by
            rw [hst, ← List.map_reverse, List.reverse_reverse, ← List.map_append, List.take_append_drop]
          have hlen : (sk.take n).length = n := by rw [List.length_take]; omega
          have hall : rk_all G (X + co) avs ((sk.take n).reverse.map r) := by
            refine ⟨by rw [List.length_map, al], fun i t v ht hv => ?_⟩
            rw [List.getElem?_map] at hv
            cases hy : (sk.take n).reverse[i]? with
            | none => rw [hy] at hv; cases hv
            | some y =>
              rw [hy] at hv
              cases hv
              exact rk_val hS (ao i y t hy ht)
          have hcat : (((sk.drop n).map r).map fun v => v.category).sum ≤ 8 := by
            have hc1 : ∀ y ∈ sk.drop n, (r y).category = 1 := by
              intro y hy
              have hmem : y ∈ sk := List.mem_of_mem_drop hy
              simp only [rk_wf, Bool.and_eq_true, List.all_eq_true, Nat.blt_eq, Nat.ble_eq] at g7
              exact rk_has_cat (rk_val hS (List.getElem?_eq_getElem (g7.2.2.1 y hmem)))
            have : ∀ ys : List Nat, (∀ y ∈ ys, (r y).category = 1) → ((ys.map r).map fun v => v.category).sum = ys.length := by
              intro ys
              induction ys with
              | nil => intro _; rfl
              | cons y ys ih =>
                intro hy
                simp only [List.map_cons, List.sum_cons, List.length_cons]
                rw [ih (fun w hw => hy w (List.mem_cons_of_mem _ hw)), hy y List.mem_cons_self]
                omega
            rw [this _ hc1]
            exact g2
          have hM := hct z avs alts C pu hctr G (X + co) L f ((sk.take n).reverse.map r) H.size (by omega) (by omega) hall hw.2.2.2.1 (hPw f hw.2.2.2.2) hBL (Nat.le_trans hB0 hw.2.2.1.1)
          obtain ⟨k1, k2, k3, k4, k5, k6, k7⟩ := hml idx z n cr hidx
          have hF : ∀ q, va_A (va_pl L f) H.size q → A q := by
            intro q hq
            rcases hq with ⟨k, e9, hke⟩ | hq
            · exact hw.2.1.2 k (q, e9) hke
            · exact hA q (Nat.le_trans hw.2.2.1.1 hq)
          have hG := rk_good (M := mt z) htb k1
          have hbl : FrameBlind (va_Pc ((sk.take n).reverse.map r) (rk_Pre D tys NU L f H.size)) := fun a U g mk q => by
            obtain ⟨q0, q1, q2, q3, q4, q5⟩ := q
            exact ⟨q0, q1, q2, va_K.moved (u := U) (U := U.calling g mk a) (Vm.Alike.refl U.vm) q3, q4, hNc U _ rfl rfl q5⟩
          have hpre : ∀ U : State, U.heap = H → s.WarmedH U.vm → rk_Pre D tys NU L f H.size U := fun U hU hW => ⟨by rw [hU], by rw [hU]; exact hw.1, va_K.moved hW.alike hK, hw.2.1.weaken (fun _ _ _ _ => trivial), hNw U locs (by rw [hU]; exact hw.2.2.1) hW⟩
          have fin : ∀ (v : Option Value) (u : Nat → va_E) (t : State) (H1 : Heap) (locs1 : List Loc), t.heap = H1 → s.vm.Alike t.vm → rk_post K E tys G (X + co + C) L f ((sk.take n).reverse.map r) alts Lv pu v u → rk_B D tys L (va_A (va_pl L f) H.size) u t → va_S A H0 H1 locs1 → W p l e R s m args below meth c H1 locs1 cm sm Q (F0 m (pc + 3) ls (v.toList ++ (sk.drop n).map r)) := by
            intro v u t H1 locs1 ht hvm hp hB hS1
            obtain ⟨⟨a, ha, hres, href⟩, hTY, hpu⟩ := hp
            obtain ⟨hP1, hK1, hD1⟩ := hB
            rw [ht] at hP1
            have eX : X + co + C = X + (co + C) := by omega
            rw [eX] at hTY hres href
            have hw1 : rk_w (Pf, K, E, tys, D, A, H0, G, L, nL, X) (co + C) u H1 locs1 := ⟨hP1, hD1.weaken (fun k q _ h9 => hF q.1 h9), hS1, hTY, hPc _ _ _ g8 hpu hw.2.2.2.2⟩
            have hon : rk_on (Pf, K, E, tys, D, A, H0, G, L, nL, X) nE r0 r (lo, sk.drop n, en, if Nat.beq pu 0 then kn else [], fc, co + C) u H1 locs1 ls ((sk.drop n).map r) := by
              obtain ⟨h1, h2, h3, h4, h5, h6, h7, h8⟩ := hS
              refine ⟨fun y' t' ht' => rk_has_X (by
                show X + co ≤ X + (co + C)
                omega) (h1 y' t' ht'), ?_, h3, h4, rfl, h6, ⟨by omega, by omega⟩, hw1⟩
              split
              · rename_i hpt
                rw [Nat.beq_eq] at hpt
                rw [hpt] at hpu
                rw [hL0 _ _ hpu]
                exact h2
              · intro q hq; cases hq
            have hwf1 : rk_wf nE (lo, sk.drop n, en, if Nat.beq pu 0 then kn else [], fc, co + C) = true := by
              simp only [rk_wf, Bool.and_eq_true, List.all_eq_true, Nat.blt_eq, Nat.ble_eq] at g7 ⊢
              refine ⟨g7.1, g7.2.1, fun y hy => g7.2.2.1 y (List.mem_of_mem_drop hy), ?_, g7.2.2.2.2⟩
              split
              · exact g7.2.2.2.1
              · intro q hq; cases hq
            have hmem : rk_altS (pc + 3) lo (sk.drop n) (sk.take n).reverse en (if Nat.beq pu 0 then kn else []) fc (co + C) a ∈ alts.map (rk_altS (pc + 3) lo (sk.drop n) (sk.take n).reverse en (if Nat.beq pu 0 then kn else []) fc (co + C)) := List.mem_map.mpr ⟨a, ha, rfl⟩
            have hgo := hk _ hmem
            have hrf : ∀ r' : Nat → Value, (∀ y, y < en.length → r' y = r y) → ∀ q ∈ a.2, ∀ y, (sk.take n).reverse[q.1]? = some y → rk_has G (X + (co + C)) q.2 (r' y) := by
              intro r' hr' q hq y hy
              obtain ⟨w, hw9, hh⟩ := href q hq
              rw [List.getElem?_map, hy] at hw9
              cases hw9
              have hyl : y < en.length := by
                simp only [rk_wf, Bool.and_eq_true, List.all_eq_true, Nat.blt_eq, Nat.ble_eq] at g7
                refine g7.2.2.1 y ?_
                have := List.mem_of_getElem? hy
                rw [List.mem_reverse] at this
                exact List.mem_of_mem_take this
              rw [hr' y hyl]
              exact hh
            unfold rk_altS at hgo
            by_cases h9 : a.1.1 = 9
            · rw [if_pos h9] at hres
              subst hres
              rw [if_pos (by rw [h9]; rfl)] at hgo
              exact hgo r u H1 locs1 ls _ (rk_rfs_ok a.2 en hon (hrf r (fun _ _ => rfl)))
            · rw [if_neg h9] at hres
              obtain ⟨w, rfl, hh⟩ := hres
              rw [if_neg (by
                intro h0
                rw [Nat.beq_eq] at h0
                exact h9 h0)] at hgo
              obtain ⟨r', e0, e1, hS'⟩ := rk_fresh hon hwf1 w
              have h5 := rk_push en.length (rk_enter (t := a.1) (rk_rfs_ok a.2 en hS' (hrf r' e1)) (by
                rw [rk_rfs_len, e0]
                exact hh))
              rw [e0] at h5
              exact hgo r' u H1 locs1 ls _ h5
          have hsz : ls.size = nL := hS.2.2.2.1.1
          cases virt with
          | true =>
            rcases cr with _ | ci
            · simp at g3
            · obtain ⟨i1, i2, ⟨q, hq, hqc⟩, k, hnk, hpar⟩ := k7 ci rfl
              -- the receiver
              obtain ⟨y0, ysr, hys⟩ : ∃ y0 ysr, (sk.take n).reverse = y0 :: ysr := by
                cases hr9 : (sk.take n).reverse with
                | nil =>
                  have : (sk.take n).reverse.length = n := by rw [List.length_reverse, hlen]
                  rw [hr9] at this
                  simp at this
                  omega
                | cons a b => exact ⟨a, b, rfl⟩
              have hlr : (y0 :: ysr).length = n := by rw [← hys, List.length_reverse, hlen]
              rw [hys] at al ao hall hM hbl ets fin
              have hrc : ∃ (k9 : Int) (z9 : Int) (tl : List rk_AV), avs = (2, k9, z9) :: tl ∧ (K k9.toNat).1 = 0 ∧ (K k9.toNat).2.1 = ci := by
                unfold rk_rcv at g4
                split at g4
                · rename_i h0; cases h0
                · rename_i ci' hci
                  cases hci
                  split at g4
                  · rename_i k9 z9 tl
                    simp only [Bool.and_eq_true, Nat.beq_eq] at g4
                    exact ⟨k9, z9, tl, rfl, g4.1, g4.2⟩
                  · cases g4
              obtain ⟨k9, z9, tl, hav, hK0, hK1⟩ := hrc
              have hy0 : en[y0]? = some (2, k9, z9) := ao 0 y0 _ rfl (by rw [hav]; rfl)
              obtain ⟨b, eb, hgb⟩ := rk_val hS hy0
              obtain ⟨q0, hq0, hcell⟩ := rk_typed hw hgb (by rw [hK0]; decide)
              unfold rk_cell at hcell
              generalize hKk : K k9.toNat = kd at hcell hK0 hK1
              obtain ⟨tg, cj, t0, ts⟩ := kd
              dsimp only at hK0 hK1
              subst hK0
              subst hK1
              obtain ⟨fs, hfs, -⟩ := hcell
              rw [hfs] at hq0
              have hrv := va_recv hK hw.1 hq hq0
              rw [hqc] at hrv
              have hPv : PreV s H (mt z).1.cls b (va_Pc (List.map r (y0 :: ysr)) (rk_Pre D tys NU L f H.size)) (ysr.map r) := ⟨hbl, hrv, fun U hU hW => ⟨by simp only [List.map_cons]; rw [eb], hpre U hU hW⟩⟩
              have hstk : st = (ysr.map r).reverse ++ .ref b :: (sk.drop n).map r := by
                rw [ets, List.map_cons, List.reverse_cons, eb, List.append_assoc]
                rfl
              have hk9 : (ysr.map r).length = k := by
                rw [List.length_map]
                simp only [List.length_cons] at hlr
                omega
              rcases k4 with hl | ⟨host, hl⟩
              · refine rk_callW (va_runV (As := ysr.map r) (rest := (sk.drop n).map r) (b := b) (C := (mt z).1.cls) ⟨hx, hb, hml9, hown, hts⟩ hM ⟨callB_of k hts hG rfl rfl rfl k2 hl ⟨k3.1, k3.2, hpar⟩ k5, i1, i2⟩ hPv rfl hk9 hsz hstk (lv_room hcat) hdg hcm) hw.2.2.1 (fun q _ h9 => hF q h9) hF fin
              · refine rk_callW (va_runVN (As := ysr.map r) (rest := (sk.drop n).map r) (b := b) (C := (mt z).1.cls) ⟨hx, hb, hml9, hown, hts⟩ hM ⟨va_cnB k hts hG rfl rfl rfl hl k2 ⟨k3.1, k3.2, hpar⟩ k5, i1, i2⟩ hPv rfl hk9 hsz hstk (lv_room hcat) hdg hcm) hw.2.2.1 (fun q _ h9 => hF q h9) hF fin
          | false =>
            rcases cr with _ | ci
            · obtain ⟨i1, hpar⟩ := k6 rfl
              have hPs : PreS s H (va_Pc ((sk.take n).reverse.map r) (rk_Pre D tys NU L f H.size)) ((sk.take n).reverse.map r) := ⟨hbl, fun U hU hW => ⟨rfl, hpre U hU hW⟩⟩
              have hk9 : ((sk.take n).reverse.map r).length = n := by rw [List.length_map, List.length_reverse, hlen]
              rcases k4 with hl | ⟨host, hl⟩
              · refine rk_callW (va_runS (As := (sk.take n).reverse.map r) (rest := (sk.drop n).map r) ⟨hx, hb, hml9, hown, hts⟩ hM ⟨callB_of n hts hG rfl rfl rfl k2 hl ⟨k3.1, k3.2, hpar⟩ k5, i1⟩ hPs rfl hk9 hsz ets (lv_room hcat) hdg hcm) hw.2.2.1 (fun q _ h9 => hF q h9) hF fin
              · refine rk_callW (va_runSN (As := (sk.take n).reverse.map r) (rest := (sk.drop n).map r) ⟨hx, hb, hml9, hown, hts⟩ hM ⟨va_cnB n hts hG rfl rfl rfl hl k2 ⟨k3.1, k3.2, hpar⟩ k5, i1, trivial⟩ hPs rfl hk9 hsz ets (lv_room hcat) hdg hcm) hw.2.2.1 (fun q _ h9 => hF q h9) hF fin
            · simp at g3
        · cases h
end RKC
end
section
/-! texts by their places, copies of rows, switches by a list -/
def rk_ldS (nE pc : Nat) (K : Nat → rk_KD) (ss : Nat → Option Nat) (i : Nat) (S : rk_St) : rk_Sc := match ss i with
  | none => none
  | some k => if Nat.beq (K k).1 9 then rk_mk nE (pc + 2) S (2, (k : Int), 0) else none
def rk_acp (wr : rk_Wr) (pc : Nat) (K : Nat → rk_KD) (ER : rk_Er) (S : rk_St) : rk_Sc := match S with
  | (lo, sk, en, kn, fc, co) => match sk with
    | n :: dp :: d :: sp :: b :: rest => (match en[n]? with
      | none => none
      | some tn => match en[dp]? with
        | none => none
        | some tdp => match en[sp]? with
          | none => none
          | some tsp => match rk_cst tn with
            | none => none
            | some c => match en[d]? with
              | some (2, kd, _) => (match en[b]? with
                | some (2, kb, _) => (match ER kb.toNat 0 (c - 1) with
                  | none => none
                  | some t1 => match ER kd.toNat 0 (c - 1) with
                    | none => none
                    | some t2 => if rk_cst tdp = some 0 ∧ rk_cst tsp = some 0 ∧ 0 < c ∧ (K kd.toNat).1 = 1 ∧ (K kb.toNat).1 = 1 ∧ c ≤ ((K kd.toNat).2.1 : Int) ∧ c ≤ ((K kb.toNat).2.1 : Int) ∧ rk_le t1 t2 = true ∧ rest.length ≤ 8 ∧ wr kd.toNat 0 (c - 1) = true ∧ rk_wf 0 S = true then some [(pc + 3, (lo, rest, en, kn.filter (fun q => Nat.blt q.2.1 1000000), fc, co))] else none)
                | _ => none)
              | _ => none)
    | _ => none
/-- the smaller of two: one of the two, by the comparison -/
def rk_mmn (pc : Nat) (S : rk_St) : rk_Sc := match S with
  | (lo, sk, en, kn, fc, co) => match sk with
    | y :: x :: rest => if rest.length ≤ 8 ∧ rk_wf 0 (lo, y :: x :: rest, en, kn, fc, co) = true then rk_two (pc + 3) (pc + 3) (rk_brn (lo, y :: rest, en, kn, fc, co) 2 y x) (rk_brn (lo, x :: rest, en, kn, fc, co) 3 y x) else none
    | _ => none
def rk_lc (pc x : Nat) (a b : Int) (S : rk_St) : List (Int × Int) → List (Nat × rk_St)
  | [] => []
  | q :: l => if a ≤ q.1 ∧ q.1 ≤ b then (rk_tgt pc q.2, (S.1, S.2.1, S.2.2.1.set x (0, q.1, q.1), S.2.2.2)) :: rk_lc pc x a b S l else rk_lc pc x a b S l
def rk_lsw (pc : Nat) (d : Int) (ps : Array (Int × Int)) (S : rk_St) : rk_Sc := match S with
  | (l0, sk, en, kn, fc, co) => match sk with
    | x :: sk => (match en[x]? with
      | none => none
      | some t => match rk_iv t with
        | none => none
        | some (a, b) => if rk_tok pc d && (ps.toList.all (fun q => rk_tok pc q.2) && (ps.toList.zip (ps.toList.drop 1)).all (fun (a, next) => a.1 < next.1)) then
            some ((rk_tgt pc d, (l0, sk, en, kn, fc, co)) :: rk_lc pc x a b (l0, sk, en, kn, fc, co) ps.toList) else none)
    | _ => none
theorem rk_lc_mem {pc x : Nat} {a b : Int} {S : rk_St} {d n : Int} (ha : a ≤ n) (hb : n ≤ b) : ∀ (l : List (Int × Int)), Op.lookupswitch.offset l d n = d ∨ ((rk_tgt pc (Op.lookupswitch.offset l d n), (S.1, S.2.1, S.2.2.1.set x (0, n, n), S.2.2.2)) ∈ rk_lc pc x a b S l ∧ (n, Op.lookupswitch.offset l d n) ∈ l)
  | [] => Or.inl rfl
  | q :: l => by
    obtain ⟨k, o⟩ := q
    unfold Op.lookupswitch.offset
    split
    · rename_i hk
      subst hk
      right
      unfold rk_lc
      rw [if_pos ⟨ha, hb⟩]
      exact ⟨List.mem_cons_self, List.mem_cons_self⟩
    · rcases rk_lc_mem (pc := pc) (x := x) (S := S) (d := d) ha hb l with h | ⟨h1, h2⟩
      · exact Or.inl h
      · right
        unfold rk_lc
        refine ⟨?_, List.mem_cons_of_mem _ h2⟩
        split
        · exact List.mem_cons_of_mem _ h1
        · exact h1
section RKM
variable {p : Program} {l : Launch} {e : Env} {R : Room} {s : State} {m : MethodId} {args : Array Value} {below : List Frame} {meth : Method} {c : Code} {cm sm : Nat} {Q : State → Prop} {cc : ByteArray} {nE : Nat} {r0 : Nat → Value}
variable {Pf : (Nat → va_E) → Prop} {K : Nat → rk_KD} {E : Nat → Nat → rk_AV} {tys : List (ClassId × FieldType)} {D : va_G} {A : Nat → Prop} {H0 : Heap} {G : Nat → Option Nat} {L : List Nat} {nL : Nat} {X : Int}
theorem rk_ldS_ok (hx : p.tables.exec = Jvm.exec) (hb : c.code = cc) {own : String} (hown : s.vm.findClass own = some m.cls) {ss : Nat → Option Nat} (hss : ∀ i k, ss i = some k → ∃ (tx : String) (a : Nat), vk_R own i tx a s ∧ (E k 0).2.1 = (a : Int))
    {pc i : Nat} {S : rk_St} {out : List (Nat × rk_St)} (hdg : decode cc pc = .ok (.ldc i, 2)) (h : rk_ldS nE pc K ss i S = some out) (hk : ∀ q ∈ out, rk_G p l e R s m args below meth c cm sm Q (Pf, K, E, tys, D, A, H0, G, L, nL, X) nE r0 q.1 q.2) : rk_G p l e R s m args below meth c cm sm Q (Pf, K, E, tys, D, A, H0, G, L, nL, X) nE r0 pc S := by
  intro r f H locs ls st hS
  unfold rk_ldS at h
  split at h
  · cases h
  · rename_i k hki
    split at h
    · rename_i h9
      rw [Nat.beq_eq] at h9
      obtain ⟨tx, a, h1, h2⟩ := hss i k hki
      have hw : rk_w (Pf, K, E, tys, D, A, H0, G, L, nL, X) S.2.2.2.2.2 f H locs := by
        obtain ⟨lo, sk, en, kn, fc, co⟩ := S
        exact hS.2.2.2.2.2.2.2
      have hG := (hw.2.2.2.1.2 a k h9).mpr h2
      exact va_ldcS hx hb hown h1 hdg (rk_mk_ok h hk hS ⟨a, rfl, by rw [Int.toNat_natCast]; exact hG⟩)
    · cases h
theorem rk_mmn_ok (hcm : cm ≤ R.cells ∧ sm ≤ R.slots) (hx : p.tables.exec = Jvm.exec) (hb : c.code = cc) (hml9 : c.maxLocals = nL) {own : String} (hown : s.vm.findClass own = some m.cls) {idx : Nat}
    (hac : (Jvm.Cond.methodLink own idx Lib.Math.min.name).before args s = true ∧ (Jvm.Cond.static Lib.Math.min.name).before args s = true ∧ (Jvm.Cond.initialized "java/lang/Math").before args s = true ∧ (Jvm.Cond.code Lib.Math.min.name Lib.Math.min.code 2 (some .int)).before args s = true ∧ 1 ≤ R.frames ∧ 8 + 13 ≤ R.locals)
    {pc : Nat} {S : rk_St} {out : List (Nat × rk_St)} (hdg : decode cc pc = .ok (.invokestatic idx, 3)) (h : rk_mmn pc S = some out) (hk : ∀ q ∈ out, rk_G p l e R s m args below meth c cm sm Q (Pf, K, E, tys, D, A, H0, G, L, nL, X) nE r0 q.1 q.2) : rk_G p l e R s m args below meth c cm sm Q (Pf, K, E, tys, D, A, H0, G, L, nL, X) nE r0 pc S := by
  intro r f H locs ls st hS
  obtain ⟨lo, sk, en, kn, fc, co⟩ := S
  rcases sk with _ | ⟨y, _ | ⟨x, rest⟩⟩
  · simp [rk_mmn] at h
  · simp [rk_mmn] at h
  · simp only [rk_mmn] at h
    split at h
    · rename_i hok
      obtain ⟨g9, g11⟩ := hok
      simp only [rk_two] at h
      split at h
      · cases h
      · rename_i la hla
        split at h
        · cases h
        · rename_i lb hlb
          cases h
          obtain ⟨st1, d1, hS1⟩ := rk_pop hS
          obtain ⟨st2, d2, hS2⟩ := rk_pop hS1
          subst d1 d2
          have hxy : (∃ a : Int32, r y = .int a) ∧ ∃ b : Int32, r x = .int b := by
            simp only [rk_brn] at hla
            split at hla
            · cases hla
            · rename_i tx htx
              split at hla
              · cases hla
              · rename_i ty hty
                split at hla
                · cases hla
                · rename_i a b hab
                  split at hla
                  · cases hla
                  · rename_i a2 b2 hab2
                    obtain ⟨v1, w1, _, _⟩ := rk_iv_ok hab (rk_val hS htx)
                    obtain ⟨v2, w2, _, _⟩ := rk_iv_ok hab2 (rk_val hS hty)
                    exact ⟨⟨v1, w1⟩, v2, w2⟩
          obtain ⟨⟨vy, ey⟩, vx, ex⟩ := hxy
          have hcat : ((rest.map r).map fun v => v.category).sum ≤ 8 := by
            have hc1 : ∀ y ∈ rest, (r y).category = 1 := by
              intro y hy
              simp only [rk_wf, Bool.and_eq_true, List.all_eq_true, Nat.blt_eq, Nat.ble_eq] at g11
              exact rk_has_cat (rk_val hS (List.getElem?_eq_getElem (g11.2.2.1 y (by simp [hy]))))
            have : ∀ ys : List Nat, (∀ y ∈ ys, (r y).category = 1) → ((ys.map r).map fun v => v.category).sum = ys.length := by
              intro ys
              induction ys with
              | nil => intro _; rfl
              | cons y ys ih =>
                intro hy
                simp only [List.map_cons, List.sum_cons, List.length_cons]
                rw [ih (fun w hw => hy w (List.mem_cons_of_mem _ hw)), hy y List.mem_cons_self]
                omega
            rw [this _ hc1]
            exact g9
          have hst2 : st2 = rest.map r := hS2.2.2.2.2.1
          have hsz : ls.size = nL := hS.2.2.2.1.1
          rw [ey, ex]
          refine va_mmin hx hb (hml9.trans hsz.symm) hown hac.1 hac.2.1 hac.2.2.1 hac.2.2.2.1 hac.2.2.2.2.1 (by rw [hst2]; have := hac.2.2.2.2.2; omega) hcm.1 hcm.2 hdg ?_
          by_cases hlt : vy < vx
          · rw [if_pos hlt, ← ey]
            obtain ⟨S', hm', hS'⟩ := rk_brn_ok (rk_push y hS2) hla (by rw [ey, ex]; exact Int32.lt_iff_toInt_lt.mp hlt)
            exact hk (pc + 3, S') (List.mem_append_left _ (List.mem_map.mpr ⟨S', hm', rfl⟩)) r f H locs ls _ hS'
          · rw [if_neg hlt, ← ex]
            obtain ⟨S', hm', hS'⟩ := rk_brn_ok (rk_push x hS2) hlb (by rw [ey, ex]; rw [Int32.lt_iff_toInt_lt] at hlt; exact Int.not_lt.mp hlt)
            exact hk (pc + 3, S') (List.mem_append_right _ (List.mem_map.mpr ⟨S', hm', rfl⟩)) r f H locs ls _ hS'
    · cases h
theorem rk_acp_ok {wr : rk_Wr} (hPf : ∀ (f : Nat → va_E) (a k : Nat) (e : va_E) (x y : Int), wr k x y = true → G a = some k → rk_dif x y (f a) e → Pf f → Pf (va_up f a e)) (hx : p.tables.exec = Jvm.exec) (hb : c.code = cc) (hml9 : c.maxLocals = nL) {own : String} (hown : s.vm.findClass own = some m.cls) (hK : va_K D vwCl tys s) {ER : rk_Er} (hER : ∀ k a b t, ER k a b = some t → ∀ j : Nat, a ≤ (j : Int) → (j : Int) ≤ b → E k j = t) (hX : 0 ≤ X) {idx : Nat}
    (hac : (Jvm.Cond.methodLink own idx arraycopyName).before args s = true ∧ (Jvm.Cond.native arraycopyName).before args s = true ∧ (Jvm.Cond.static arraycopyName).before args s = true ∧ (Jvm.Cond.initialized "java/lang/System").before args s = true ∧ 1 ≤ R.frames ∧ 8 + (nativeFrameWords "java/lang/System" "arraycopy" 5 + 11) ≤ R.locals)
    {pc : Nat} {S : rk_St} {out : List (Nat × rk_St)} (hdg : decode cc pc = .ok (.invokestatic idx, 3)) (h : rk_acp wr pc K ER S = some out) (hk : ∀ q ∈ out, rk_G p l e R s m args below meth c cm sm Q (Pf, K, E, tys, D, A, H0, G, L, nL, X) nE r0 q.1 q.2) : rk_G p l e R s m args below meth c cm sm Q (Pf, K, E, tys, D, A, H0, G, L, nL, X) nE r0 pc S := by
  intro r f H locs ls st hS
  obtain ⟨lo, sk, en, kn, fc, co⟩ := S
  have hco := hS.2.2.2.2.2.2.1
  have hw := hS.2.2.2.2.2.2.2
  rcases sk with _ | ⟨n, _ | ⟨dp, _ | ⟨d, _ | ⟨sp, _ | ⟨b, rest⟩⟩⟩⟩⟩
  · simp [rk_acp] at h
  · simp [rk_acp] at h
  · simp [rk_acp] at h
  · simp [rk_acp] at h
  · simp [rk_acp] at h
  · simp only [rk_acp] at h
    split at h
    · cases h
    · rename_i tn htn
      split at h
      · cases h
      · rename_i tdp htdp
        split at h
        · cases h
        · rename_i tsp htsp
          split at h
          · cases h
          · rename_i cst hcst
            split at h
            · rename_i kd zd hd
              split at h
              · rename_i kb zb hbb
                split at h
                · cases h
                · rename_i t1 ht1
                  split at h
                  · cases h
                  · rename_i t2 ht2
                    split at h
                    · rename_i hok
                      obtain ⟨g1, g2, g3, g4, g5, g6, g7, g8, g9, g10, g11⟩ := hok
                      cases h
                      obtain ⟨st1, d1, hS1⟩ := rk_pop hS
                      obtain ⟨st2, d2, hS2⟩ := rk_pop hS1
                      obtain ⟨st3, d3, hS3⟩ := rk_pop hS2
                      obtain ⟨st4, d4, hS4⟩ := rk_pop hS3
                      obtain ⟨st5, d5, hS5⟩ := rk_pop hS4
                      subst d1 d2 d3 d4 d5
                      have isInt : ∀ (t : rk_AV) (y : Nat) (c0 : Int), en[y]? = some t → rk_cst t = some c0 → ∃ x : Int32, r y = .int x ∧ x.toInt = c0 := by
                        intro t y c0 hy hc0
                        have hv := rk_val hS hy
                        have hi : rk_isI t = true := by
                          obtain ⟨n9, a9, b9⟩ := t
                          rcases n9 with _ | n9
                          · rfl
                          · simp [rk_cst] at hc0
                        obtain ⟨x, ex⟩ := rk_isI_ok hi hv
                        rw [ex] at hv
                        exact ⟨x, ex, rk_cst_ok hc0 hv⟩
                      obtain ⟨xn, en1, en2⟩ := isInt tn n cst htn hcst
                      obtain ⟨xd, ed1, ed2⟩ := isInt tdp dp 0 htdp g1
                      obtain ⟨xs, es1, es2⟩ := isInt tsp sp 0 htsp g2
                      have zd0 : xd = 0 := Int32.toInt_inj.mp ed2
                      have zs0 : xs = 0 := Int32.toInt_inj.mp es2
                      subst zd0 zs0
                      obtain ⟨nn, e1, e2, e3⟩ := rk_nI (x := xn) (by omega)
                      have hcl : xn.toNatClampNeg = nn := by rw [e1]; exact nI_clamp e3
                      have hc0 : (0 : Int32).toNatClampNeg = 0 := rfl
                      obtain ⟨ad, ead, hgd⟩ := rk_val hS hd
                      obtain ⟨ab, eab, hgb⟩ := rk_val hS hbb
                      obtain ⟨q1, hq1, hcd⟩ := rk_typed hw hgd (by rw [g4]; decide)
                      obtain ⟨q0, hq0, hcb⟩ := rk_typed hw hgb (by rw [g5]; decide)
                      unfold rk_cell at hcd hcb
                      generalize hKd : K kd.toNat = kkd at hcd g4 g6
                      generalize hKb : K kb.toNat = kkb at hcb g5 g7
                      obtain ⟨td, nd, t0d, tsd⟩ := kkd
                      obtain ⟨tb, nb, t0b, tsb⟩ := kkb
                      dsimp only at g4 g5 g6 g7
                      subst g4 g5
                      obtain ⟨cA1, gd, hf1, hty1, hr1⟩ := hcd
                      obtain ⟨cA0, gb, hf0, hty0, hr0⟩ := hcb
                      have hq1' := hq1
                      rw [hf1] at hq1'
                      rw [hf0] at hq0
                      rw [en1, ed1, es1, ead, eab]
                      have hcat : ((rest.map r).map fun v => v.category).sum ≤ 8 := by
                        have hc1 : ∀ y ∈ rest, (r y).category = 1 := by
                          intro y hy
                          simp only [rk_wf, Bool.and_eq_true, List.all_eq_true, Nat.blt_eq, Nat.ble_eq] at g11
                          exact rk_has_cat (rk_val hS (List.getElem?_eq_getElem (g11.2.2.1 y (by simp [hy]))))
                        have : ∀ ys : List Nat, (∀ y ∈ ys, (r y).category = 1) → ((ys.map r).map fun v => v.category).sum = ys.length := by
                          intro ys
                          induction ys with
                          | nil => intro _; rfl
                          | cons y ys ih =>
                            intro hy
                            simp only [List.map_cons, List.sum_cons, List.length_cons]
                            rw [ih (fun w hw => hy w (List.mem_cons_of_mem _ hw)), hy y List.mem_cons_self]
                            omega
                        rw [this _ hc1]
                        exact g9
                      have hst5 : st5 = rest.map r := hS5.2.2.2.2.1
                      have hsz : ls.size = nL := hS.2.2.2.1.1
                      refine va_copyi hx hb (hml9.trans hsz.symm) hown hac.1 hac.2.1 hac.2.2.1 hac.2.2.2.1 hK hw.1 hw.2.1 hw.2.2.1 q0 q1 0 0 hq0 hq1' hty0 hty1 rfl (by decide) (by decide) (by
                        intro h0
                        rw [Int32.lt_iff_toInt_lt] at h0
                        have : (0 : Int32).toInt = 0 := rfl
                        omega) (by rw [hc0, hcl]; omega) (by rw [hc0, hcl]; omega) (fun i hi => rfl) hac.2.2.2.2.1 (by rw [hst5]; have := hac.2.2.2.2.2; omega) hdg (fun H1 locs1 hP1 hD1 hS9 => ?_)
                      rw [hc0, hcl] at hP1
                      refine hk _ (List.mem_singleton.mpr rfl) r (va_up f ad (.inl (cA1, nd, .inl (va_cpy gb gd 0 0 nn)))) H1 locs1 ls _ ?_
                      have hcell2 : rk_cell K E tys G (X + (co + 0)) kd.toNat (.inl (cA1, nd, .inl (va_cpy gb gd 0 0 nn))) := by
                        rw [Int.add_zero]
                        unfold rk_cell
                        rw [hKd]
                        refine ⟨cA1, _, rfl, hty1, fun j hj => ?_⟩
                        by_cases hjn : j < nn
                        · rw [pk_cpy_in (Nat.zero_le j) (by omega), Nat.zero_add, Nat.sub_zero]
                          have b1 := hr0 j (by omega)
                          rw [hER _ _ _ _ ht1 j (by omega) (by omega)] at b1
                          rw [hER _ _ _ _ ht2 j (by omega) (by omega)]
                          exact rk_le_ok (by omega) g8 b1
                        · rw [pk_cpy_out (Or.inr (by omega))]
                          exact hr1 j hj
                      have hw1 := rk_w_up (d := 0) hw hgd (by rw [hKd]; dsimp only; omega) (Int.le_refl 0) hq1 hcell2 hP1 hS9 (hPf _ _ _ _ _ _ g10 hgd (Or.inr (Or.inl ⟨cA1, nd, gd, _, hf1, rfl, fun j hj => pk_cpy_out (Or.inr (by omega))⟩)))
                      rw [Int.add_zero] at hw1
                      obtain ⟨o1, o2, o3, o4, o5, o6, o7, o8⟩ := hS5
                      refine ⟨o1, fun q hq => ?_, o3, o4, o5, o6, o7, hw1⟩
                      obtain ⟨hq1, hq2⟩ := List.mem_filter.mp hq
                      rw [Nat.blt_eq] at hq2
                      obtain ⟨b1, b2, b3⟩ := o2 q hq1
                      refine ⟨b1, b2, ?_⟩
                      unfold rk_kf at b3 ⊢
                      rw [if_pos hq2] at b3 ⊢
                      by_cases hba : b1 = ad
                      · subst hba
                        rw [hf1] at b3
                        cases b3
                      · rw [va_up_ne _ _ hba]
                        exact b3
                    · cases h
              · cases h
            · cases h
theorem rk_lsw_ok (hx : p.tables.exec = Jvm.exec) (hb : c.code = cc) {F : rk_Fx} {pc len : Nat} {d : Int} {ps : Array (Int × Int)} {S : rk_St} {out : List (Nat × rk_St)} (hdg : decode cc pc = .ok (.lookupswitch d ps, len)) (h : rk_lsw pc d ps S = some out) (hk : ∀ q ∈ out, rk_G p l e R s m args below meth c cm sm Q F nE r0 q.1 q.2) : rk_G p l e R s m args below meth c cm sm Q F nE r0 pc S := by
  intro r f H locs ls st hS
  obtain ⟨lo, sk, en, kn, fc, co⟩ := S
  rcases sk with _ | ⟨x, sk'⟩
  · simp [rk_lsw] at h
  · simp only [rk_lsw] at h
    obtain ⟨st1, d1, hS1⟩ := rk_pop hS
    subst d1
    split at h
    · cases h
    · rename_i t ht
      split at h
      · cases h
      · rename_i a b hab
        obtain ⟨u, eu, q1, q2⟩ := rk_iv_ok hab (rk_val hS ht)
        split at h
        · rename_i hok
          rw [Bool.and_eq_true, Bool.and_eq_true] at hok
          obtain ⟨g1, g2, g3⟩ := hok
          cases h
          rw [eu]
          rcases rk_lc_mem (pc := pc) (x := x) (S := (lo, sk', en, kn, fc, co)) (d := d) q1 q2 ps.toList with h0 | ⟨h1, h2⟩
          · exact lv_lookup hx hb hdg g3 h0 (rk_tgt_ok g1) (hk _ List.mem_cons_self r f H locs ls _ hS1)
          · refine lv_lookup hx hb hdg g3 rfl (rk_tgt_ok ?_) (hk _ (List.mem_cons_of_mem _ h1) r f H locs ls _ (rk_ref hS1 ?_))
            · exact List.all_eq_true.mp g2 _ h2
            · rw [eu]
              exact ⟨u, rfl, Int.le_refl _, Int.le_refl _⟩
        · cases h
end RKM
end
section
/-! linear forms: measures -/
def rk_lv (r : Nat → Value) : List (Nat × Int) → Int
  | [] => 0
  | q :: l => q.2 * rk_toI (r q.1) + rk_lv r l
def rk_low (en : List rk_AV) : List (Nat × Int) → Option Int
  | [] => some 0
  | q :: l => match rk_low en l with
    | none => none
    | some w => if q.2 = 0 then some w else match en[q.1]? with
      | some (0, a, b) => some ((if 0 ≤ q.2 then q.2 * a else q.2 * b) + w)
      | _ => none
theorem rk_low_ok {G : Nat → Option Nat} {X : Int} {en : List rk_AV} {r : Nat → Value} (h : ∀ y t, en[y]? = some t → rk_has G X t (r y)) : ∀ (l : List (Nat × Int)) (w : Int), rk_low en l = some w → w ≤ rk_lv r l
  | [], w, hw => by cases hw; exact Int.le_refl 0
  | q :: l, w, hw => by
    unfold rk_low at hw
    split at hw
    · cases hw
    · rename_i w1 h1
      have ih := rk_low_ok h l w1 h1
      unfold rk_lv
      split at hw
      · rename_i h0
        cases hw
        rw [h0, Int.zero_mul]
        omega
      · split at hw
        · rename_i a b ht
          cases hw
          obtain ⟨x, ex, p1, p2⟩ := h _ _ ht
          rw [ex]
          simp only [rk_toI]
          split
          · rename_i hq
            have := Int.mul_le_mul_of_nonneg_left p1 hq
            omega
          · rename_i hq
            have := Int.mul_le_mul_of_nonpos_left (by omega : q.2 ≤ 0) p2
            omega
        · cases hw
def rk_ins (y : Nat) (c : Int) : List (Nat × Int) → List (Nat × Int)
  | [] => [(y, c)]
  | q :: l => if Nat.beq q.1 y then (y, q.2 + c) :: l else q :: rk_ins y c l
theorem rk_ins_ok {r : Nat → Value} {y : Nat} {c : Int} : ∀ l : List (Nat × Int), rk_lv r (rk_ins y c l) = c * rk_toI (r y) + rk_lv r l
  | [] => by simp [rk_ins, rk_lv]
  | q :: l => by
    unfold rk_ins
    split
    · rename_i hq
      rw [Nat.beq_eq] at hq
      simp only [rk_lv]
      rw [hq, Int.add_mul]
      omega
    · simp only [rk_lv]
      rw [rk_ins_ok l]
      omega
def rk_nrm (fc : List (Nat × Nat × Nat × Int)) : Nat → Nat → Nat × Int
  | 0, y => (y, 0)
  | n + 1, y => match rk_df y fc with
    | none => (y, 0)
    | some (x, c) => ((rk_nrm fc n x).1, (rk_nrm fc n x).2 + c)
theorem rk_nrm_ok {r : Nat → Value} {fc : List (Nat × Nat × Nat × Int)} (hf : ∀ q ∈ fc, rk_fact r q) : ∀ (n y : Nat), rk_toI (r y) = rk_toI (r (rk_nrm fc n y).1) + (rk_nrm fc n y).2
  | 0, y => by simp [rk_nrm]
  | n + 1, y => by
    unfold rk_nrm
    split
    · simp
    · rename_i x c hd
      have h1 := rk_df_ok fc hf hd
      have h2 := rk_nrm_ok hf n x
      dsimp only
      omega
/-- a form over locals is taken away -/
def rk_sb (lo : List (Nat × Nat)) (fc : List (Nat × Nat × Nat × Int)) : List (Nat × Int) → List (Nat × Int) → Int → Option (List (Nat × Int) × Int)
  | [], l, k => some (l, k)
  | q :: m, l, k => match rk_lk lo q.1 with
    | none => none
    | some y => rk_sb lo fc m (rk_ins (rk_nrm fc 4 y).1 (-q.2) l) (k - q.2 * (rk_nrm fc 4 y).2)
theorem rk_sb_ok {r r1 : Nat → Value} {lo : List (Nat × Nat)} {fc : List (Nat × Nat × Nat × Int)} (hf : ∀ q ∈ fc, rk_fact r q) : ∀ (m l l2 : List (Nat × Int)) (k k2 : Int), (∀ q ∈ m, ∀ y, rk_lk lo q.1 = some y → r1 q.1 = r y) → rk_sb lo fc m l k = some (l2, k2) → rk_lv r l2 + k2 = rk_lv r l + k - rk_lv r1 m
  | [], l, l2, k, k2, _, h => by
    cases h
    simp [rk_lv]
  | q :: m, l, l2, k, k2, hr, h => by
    unfold rk_sb at h
    split at h
    · cases h
    · rename_i y hy
      have ih := rk_sb_ok hf m _ l2 _ k2 (fun p hp => hr p (List.mem_cons_of_mem _ hp)) h
      rw [rk_ins_ok] at ih
      have h1 := rk_nrm_ok hf 4 y
      rw [ih]
      simp only [rk_lv]
      rw [hr q List.mem_cons_self _ hy, h1, Int.mul_add, Int.neg_mul]
      omega
/-- a cut: its place; what its locals, then its known fields may be; those fields (a local, a place); a measure (the end); another (the counters) -/
abbrev rk_Cut : Type := Nat × List rk_AV × List (Nat × Nat) × (Int × List (Nat × Int)) × (Int × List (Nat × Int))
def rk_loc : Nat → List rk_AV → List (Nat × Nat)
  | _, [] => []
  | i, t :: l => if Nat.blt t.1 4 then (i, i) :: rk_loc (i + 1) l else rk_loc (i + 1) l
def rk_kn0 : Nat → List (Nat × Nat) → List (Nat × Nat × Nat)
  | _, [] => []
  | q, z :: l => (z.1, z.2, q) :: rk_kn0 (q + 1) l
def rk_S0 (nT : Nat) (ts : List rk_AV) (kf : List (Nat × Nat)) : rk_St := (rk_loc 0 (ts.take nT), [], ts, rk_kn0 nT kf, [], 0)
def rk_nT (B : rk_Cut) : Nat := B.2.1.length - B.2.2.1.length
def rk_xt (lo : List (Nat × Nat)) (kn : List (Nat × Nat × Nat)) : Nat → List (Nat × Nat) → List (Nat × Nat)
  | _, [] => []
  | q, z :: l => match rk_lk lo z.1 with
    | none => rk_xt lo kn (q + 1) l
    | some y => match rk_kn y z.2 kn with
      | none => rk_xt lo kn (q + 1) l
      | some v => (q, v) :: rk_xt lo kn (q + 1) l
def rk_fit2 (lo : List (Nat × Nat)) (en : List rk_AV) : Nat → List rk_AV → Bool
  | _, [] => true
  | i, t :: l => (if Nat.blt t.1 4 then (match rk_lk lo i with
      | none => false
      | some y => match en[y]? with
        | none => false
        | some u => rk_le u t) else true) && rk_fit2 lo en (i + 1) l
def rk_ms (lo : List (Nat × Nat)) (fc : List (Nat × Nat × Nat × Int)) (en : List rk_AV) (A B : Int × List (Nat × Int)) (tk : Int) : Bool := match rk_sb lo fc B.2 A.2 (A.1 - B.1 - tk) with
  | none => false
  | some (l2, k2) => match rk_low en l2 with
    | none => false
    | some w => decide (0 ≤ w + k2)
/-- the state at a cut is what the cut says, and its measures are less -/
def rk_ent (tA : Option (Int × List (Nat × Int))) (cA : Int) (lA : List (Nat × Int)) (B : rk_Cut) (S : rk_St) : Bool := match S with
  | (lo, sk, en, kn, fc, co) => match sk with
    | _ :: _ => false
    | [] => rk_fit2 (lo ++ rk_xt lo kn (rk_nT B) B.2.2.1) en 0 B.2.1 && (rk_ms (lo ++ rk_xt lo kn (rk_nT B) B.2.2.1) fc en (cA, lA) B.2.2.2.2 co && (match tA with
      | none => true
      | some a => rk_ms (lo ++ rk_xt lo kn (rk_nT B) B.2.2.1) fc en a B.2.2.2.1 1))
def rk_fc (cs : List rk_Cut) (pc : Nat) : Option rk_Cut := match cs with
  | [] => none
  | c :: l => if Nat.beq c.1 pc then some c else rk_fc l pc
theorem rk_fc_ok {pc : Nat} {B : rk_Cut} : ∀ cs : List rk_Cut, rk_fc cs pc = some B → B ∈ cs ∧ B.1 = pc
  | [], h => by cases h
  | c :: l, h => by
    unfold rk_fc at h
    split at h
    · rename_i hc
      rw [Nat.beq_eq] at hc
      cases h
      exact ⟨List.mem_cons_self, hc⟩
    · obtain ⟨h1, h2⟩ := rk_fc_ok l h
      exact ⟨List.mem_cons_of_mem _ h1, h2⟩
def rk_aOK (eN : Nat) (en : List rk_AV) (t : rk_AV) (a : rk_Alt) : Bool := !(Nat.beq a.1.1 9) && (rk_le t a.1 && a.2.all (fun q => Nat.blt q.1 eN && (match en[q.1]? with
  | none => false
  | some u => rk_le u q.2)))
def rk_vOK (eN : Nat) (en : List rk_AV) (a : rk_Alt) : Bool := Nat.beq a.1.1 9 && a.2.all (fun q => Nat.blt q.1 eN && (match en[q.1]? with
  | none => false
  | some u => rk_le u q.2))
/-- what a method is: its kind of answer (0 none, 1 int, 2 boolean, 3 reference), its alternatives, does it change nothing -/
def rk_rt (eN : Nat) (rk : Nat) (alts : List rk_Alt) (cA : Int) (lA : List (Nat × Int)) (ins : Instr) (S : rk_St) : Bool := match S with
  | (_, sk, en, _, _, co) => (match rk_low en lA with
      | none => false
      | some w => decide (co ≤ cA + w)) && (match ins with
    | .return_ => Nat.beq rk 0 && (sk.isEmpty && alts.any (rk_vOK eN en))
    | .ireturn => (match sk with
      | [y] => (match en[y]? with
        | none => false
        | some t => (Nat.beq rk 1 && rk_isI t || Nat.beq rk 2 && rk_le t (0, 0, 1)) && alts.any (rk_aOK eN en t))
      | _ => false)
    | .areturn => (match sk with
      | [y] => (match en[y]? with
        | none => false
        | some t => Nat.beq rk 3 && (rk_isR t && alts.any (rk_aOK eN en t)))
      | _ => false)
    | _ => false)
abbrev rk_Pg : Type := ByteArray × Nat × rk_Fl × rk_Ml × (Nat → Option Int32) × (Nat → Option Nat) × (Nat → Nat)
def rk_cap (cA : Int) (lA : List (Nat × Int)) (en : List rk_AV) (co : Int) : Bool := match rk_low en lA with
  | none => false
  | some w => decide (co ≤ cA + w)
def rk_step (cap : List rk_AV → Int → Bool) (K : Nat → rk_KD) (ER : rk_Er) (ap : Nat × Nat) (ctr : rk_Ctr) (P : rk_Pg) (wr : Nat → rk_Wr) (lv : Nat) (nE pc : Nat) (ins : Instr) (S : rk_St) : rk_Sc := match ins with
  | .getfield _ => rk_s2 (wr lv) nE K ER P.2.2.1 ap pc ins S
  | .putfield _ => rk_s2 (wr lv) nE K ER P.2.2.1 ap pc ins S
  | .arraylength => rk_s2 (wr lv) nE K ER P.2.2.1 ap pc ins S
  | .iaload => rk_s2 (wr lv) nE K ER P.2.2.1 ap pc ins S
  | .iastore => rk_s2 (wr lv) nE K ER P.2.2.1 ap pc ins S
  | .aaload => rk_s2 (wr lv) nE K ER P.2.2.1 ap pc ins S
  | .aastore => rk_s2 (wr lv) nE K ER P.2.2.1 ap pc ins S
  | .invokevirtual i => rk_inv cap lv nE pc K P.2.2.2.1 ctr i true S
  | .invokestatic i => (match P.2.2.2.2.2.2 i with
    | 1 => rk_acp (wr lv) pc K ER S
    | 2 => rk_mmn pc S
    | _ => rk_inv cap lv nE pc K P.2.2.2.1 ctr i false S)
  | .lookupswitch d ps => rk_lsw pc d ps S
  | .ldc i => (match P.2.2.2.2.1 i with
    | some _ => rk_s1 nE P.2.1 P.2.2.2.2.1 pc (.ldc i) S
    | none => rk_ldS nE pc K P.2.2.2.2.2.1 i S)
  | _ => rk_s1 nE P.2.1 P.2.2.2.2.1 pc ins S
def rk_isRet (ins : Instr) : Bool := match ins with
  | .ireturn => true
  | .areturn => true
  | .return_ => true
  | _ => false
def rk_go (K : Nat → rk_KD) (ER : rk_Er) (ap : Nat × Nat) (ctr : rk_Ctr) (P : rk_Pg) (wr : Nat → rk_Wr) (lv : Nat) (rk : Nat) (alts : List rk_Alt) (cs : List rk_Cut) (eN : Nat) (tA : Option (Int × List (Nat × Int))) (cA : Int) (lA : List (Nat × Int)) (nE : Nat) : Nat → Nat → rk_St → Bool
  | 0, _, _ => false
  | n + 1, pc, S => match decode P.1 pc with
    | .error _ => false
    | .ok (ins, len) => rk_lenOk ins len && (if rk_isRet ins then rk_rt eN rk alts cA lA ins S else match rk_step (rk_cap cA lA) K ER ap ctr P wr lv nE pc ins S with
      | none => false
      | some out => out.all (fun q => match rk_fc cs q.1 with
        | some B => rk_ent tA cA lA B q.2
        | none => rk_go K ER ap ctr P wr lv rk alts cs eN tA cA lA nE n q.1 q.2))
def rk_tOk (ts : List rk_AV) : Bool := ts.all (fun t => Nat.blt t.1 5)
def rk_okL (ts : List rk_AV) (c : Int) (l : List (Nat × Int)) : Bool := l.all (fun q => Nat.blt q.1 ts.length && (match ts[q.1]? with
  | some (0, _, _) => true
  | _ => false)) && (match rk_low ts l with
  | none => false
  | some w => decide (0 ≤ c + w))
def rk_okK (nL nT : Nat) (ts : List rk_AV) (kf : List (Nat × Nat)) : Bool := (kf.isEmpty || Nat.beq nT nL) && (kf.all (fun z => Nat.blt z.1 nT && (Nat.blt z.2 1000000 && (match ts[z.1]? with
  | some t => Nat.blt t.1 4
  | none => false))) && (ts.drop nT).all (fun t => Nat.blt t.1 4))
/-- a method's certificate holds -/
def rk_chk (K : Nat → rk_KD) (ER : rk_Er) (ap : Nat × Nat) (ctr : rk_Ctr) (P : rk_Pg) (wr : Nat → rk_Wr) (lv : Nat) (rk : Nat) (avs : List rk_AV) (alts : List rk_Alt) (C : Int) (cs : List rk_Cut) (fuel : Nat) : Bool :=
  Nat.ble avs.length P.2.1 && (decide (0 ≤ C) && (rk_tOk avs && (rk_go K ER ap ctr P wr lv rk alts cs avs.length none C [] avs.length fuel 0 (rk_S0 avs.length avs []) &&
    cs.all (fun B => rk_tOk B.2.1 && (Nat.ble (rk_nT B) P.2.1 && (Nat.ble B.2.2.1.length B.2.1.length && (rk_okK P.2.1 (rk_nT B) B.2.1 B.2.2.1 && (rk_okL B.2.1 B.2.2.2.1.1 B.2.2.2.1.2 && (rk_okL B.2.1 B.2.2.2.2.1 B.2.2.2.2.2 &&
      rk_go K ER ap ctr P wr lv rk alts cs 0 (some B.2.2.2.1) B.2.2.2.2.1 B.2.2.2.2.2 B.2.1.length fuel B.1 (rk_S0 (rk_nT B) B.2.1 B.2.2.1))))))))))
end
section
theorem rk_loc_ok {q : Nat × Nat} : ∀ (ts : List rk_AV) (k : Nat), q ∈ rk_loc k ts → ∃ (i : Nat) (t : rk_AV), q = (k + i, k + i) ∧ ts[i]? = some t ∧ t.1 < 4
  | [], k, h => by cases h
  | t :: l, k, h => by
    unfold rk_loc at h
    split at h
    · rename_i ht
      rw [Nat.blt_eq] at ht
      rcases List.mem_cons.mp h with rfl | h
      · exact ⟨0, t, rfl, rfl, ht⟩
      · obtain ⟨i, u, e1, e2, e3⟩ := rk_loc_ok l (k + 1) h
        exact ⟨i + 1, u, by rw [e1]; simp only [Prod.mk.injEq]; omega, by rw [List.getElem?_cons_succ]; exact e2, e3⟩
    · obtain ⟨i, u, e1, e2, e3⟩ := rk_loc_ok l (k + 1) h
      exact ⟨i + 1, u, by rw [e1]; simp only [Prod.mk.injEq]; omega, by rw [List.getElem?_cons_succ]; exact e2, e3⟩
theorem rk_fit2_ok {lo : List (Nat × Nat)} {en : List rk_AV} : ∀ (ts : List rk_AV) (k : Nat), rk_fit2 lo en k ts = true → ∀ (i : Nat) (t : rk_AV), ts[i]? = some t → t.1 < 4 → ∃ y u, rk_lk lo (k + i) = some y ∧ en[y]? = some u ∧ rk_le u t = true
  | [], k, _, i, t, h, _ => by simp at h
  | t0 :: l, k, hf, i, t, h, ht => by
    unfold rk_fit2 at hf
    rw [Bool.and_eq_true] at hf
    rcases i with _ | i
    · simp only [List.getElem?_cons_zero, Option.some.injEq] at h
      subst h
      have h1 := hf.1
      rw [if_pos (by rw [Nat.blt_eq]; exact ht)] at h1
      split at h1
      · cases h1
      · rename_i y hy
        split at h1
        · cases h1
        · rename_i u hu
          exact ⟨y, u, hy, hu, h1⟩
    · rw [List.getElem?_cons_succ] at h
      obtain ⟨y, u, e1, e2, e3⟩ := rk_fit2_ok l (k + 1) hf.2 i t h ht
      exact ⟨y, u, by rw [← e1]; congr 1; omega, e2, e3⟩
theorem rk_lv_eq {r r1 : Nat → Value} {n : Nat} (h : ∀ y, y < n → r y = r1 y) : ∀ l : List (Nat × Int), (∀ q ∈ l, q.1 < n) → rk_lv r l = rk_lv r1 l
  | [], _ => rfl
  | q :: l, hl => by
    unfold rk_lv
    rw [rk_lv_eq h l (fun p hp => hl p (List.mem_cons_of_mem _ hp)), h q.1 (hl q List.mem_cons_self)]
theorem rk_args_in {w : Value} : ∀ (vs : List Value) (k i : Nat), (∀ v ∈ vs, v.category = 1) → vs[i]? = some w → (k + i, w) ∈ lv_args k vs
  | [], k, i, _, h => by simp at h
  | v :: vs, k, i, hc, h => by
    unfold lv_args
    rw [if_neg (by rw [hc v List.mem_cons_self]; omega)]
    rcases i with _ | i
    · simp only [List.getElem?_cons_zero, Option.some.injEq] at h
      subst h
      exact List.mem_cons_self
    · rw [List.getElem?_cons_succ] at h
      have := rk_args_in vs (k + 1) i (fun u hu => hc u (List.mem_cons_of_mem _ hu)) h
      refine List.mem_cons_of_mem _ ?_
      rw [show k + (i + 1) = k + 1 + i by omega]
      exact this
theorem rk_sl_len : ∀ vs : List Value, (∀ v ∈ vs, v.category = 1) → (lg_sl vs).length = vs.length
  | [], _ => rfl
  | v :: vs, hc => by
    have ih := rk_sl_len vs (fun u hu => hc u (List.mem_cons_of_mem _ hu))
    unfold lg_sl at ih ⊢
    rw [List.flatMap_cons, List.length_append, ih, if_neg (by rw [hc v List.mem_cons_self]; omega)]
    simp only [List.length_cons, List.length_nil]
    omega
section RKD
variable {p : Program} {l : Launch} {e : Env} {R : Room} {s : State} {m : MethodId} {args : Array Value} {below : List Frame} {meth : Method} {c : Code} {cm sm : Nat} {Q : State → Prop} {nE : Nat} {r0 : Nat → Value}
variable {Pf : (Nat → va_E) → Prop} {K : Nat → rk_KD} {E : Nat → Nat → rk_AV} {tys : List (ClassId × FieldType)} {D : va_G} {A : Nat → Prop} {H0 : Heap} {G : Nat → Option Nat} {L : List Nat} {nL : Nat} {X : Int}
theorem rk_go_ok {wr : Nat → rk_Wr} {Lv : rk_Lvt} {Pw : rk_Pwt} (hPw : ∀ u, Pf u → Pw G u) {lv : Nat} (hL0 : ∀ f u, Lv G 0 f u → u = f) (hPc : ∀ (n : Nat) (f u : Nat → va_E), rk_lle n lv = true → Lv G n f u → Pf f → Pf u) (hPf : ∀ (f : Nat → va_E) (a k : Nat) (e : va_E) (x y : Int), wr lv k x y = true → G a = some k → rk_dif x y (f a) e → Pf f → Pf (va_up f a e)) {P : rk_Pg} (hx : p.tables.exec = Jvm.exec) (hb : c.code = P.1) (hml9 : c.maxLocals = nL) (hnL : P.2.1 = nL) {own : String} (hown : s.vm.findClass own = some m.cls) {Ts : List Jvm.Cond} (hts : ∀ w ∈ Ts, w.before args s = true) (htb : ∀ w ∈ rk_tbl, w ∈ Ts) (hK : va_K D vwCl tys s) {NU : State → Prop} (hNs : NU s) (hNw : ∀ (U : State) (locs : List Loc), va_S A H0 U.heap locs → s.WarmedH U.vm → NU U) (hNc : ∀ u U : State, u.vm = U.vm → u.heap = U.heap → NU u → NU U)
    (hfl : rk_FlOk s args Ts own P.2.2.1) {ER : rk_Er} (hER : ∀ k a b t, ER k a b = some t → ∀ j : Nat, a ≤ (j : Int) → (j : Int) ≤ b → E k j = t) {ap : Nat × Nat} (hap : ∀ cA C, tys[ap.1]? = some (cA, .object C) → ∃ q, vwCl[ap.2]? = some q ∧ q.1 = C)
    {base : Nat} {mt : Nat → rk_Mt} (hml : rk_MlOk s args R own mt P.2.2.2.1) {ctr : rk_Ctr} (hct : ∀ z avs alts C pu, ctr z avs = some (alts, C, pu) → rk_Met base l K E tys D NU Lv Pw (mt z) avs alts C pu) (hBL : ∀ a ∈ L, base ≤ a) (hB0 : base ≤ H0.size) (hcs : ∀ i v, P.2.2.2.2.1 i = some v → (Jvm.Cond.constant own i v).before args s = true) (hss : ∀ i k, P.2.2.2.2.2.1 i = some k → ∃ (tx : String) (a : Nat), vk_R own i tx a s ∧ (E k 0).2.1 = (a : Int)) (hac : ∀ idx, (P.2.2.2.2.2.2 idx = 1 → (Jvm.Cond.methodLink own idx arraycopyName).before args s = true ∧ (Jvm.Cond.native arraycopyName).before args s = true ∧ (Jvm.Cond.static arraycopyName).before args s = true ∧ (Jvm.Cond.initialized "java/lang/System").before args s = true ∧ 1 ≤ R.frames ∧ 8 + (nativeFrameWords "java/lang/System" "arraycopy" 5 + 11) ≤ R.locals) ∧ (P.2.2.2.2.2.2 idx = 2 → (Jvm.Cond.methodLink own idx Lib.Math.min.name).before args s = true ∧ (Jvm.Cond.static Lib.Math.min.name).before args s = true ∧ (Jvm.Cond.initialized "java/lang/Math").before args s = true ∧ (Jvm.Cond.code Lib.Math.min.name Lib.Math.min.code 2 (some .int)).before args s = true ∧ 1 ≤ R.frames ∧ 8 + 13 ≤ R.locals)) (hA : ∀ q, H0.size ≤ q → A q) (hcm : cm ≤ R.cells ∧ sm ≤ R.slots) (hX : 0 ≤ X) (hX2 : X ≤ rk_top) {rk : Nat} {alts : List rk_Alt} {cs : List rk_Cut} {eN : Nat} {tA : Option (Int × List (Nat × Int))} {cA : Int} {lA : List (Nat × Int)} (hcap : ∀ (en : List rk_AV) (co X' : Int) (r : Nat → Value), (∀ y, y < nE → r y = r0 y) → (∀ y t, en[y]? = some t → rk_has G X' t (r y)) → rk_cap cA lA en co = true → X + co ≤ rk_top)
    (Hret : ∀ (pc : Nat) (ins : Instr) (S : rk_St), decode P.1 pc = .ok (ins, 1) → rk_rt eN rk alts cA lA ins S = true → rk_G p l e R s m args below meth c cm sm Q (Pf, K, E, tys, D, A, H0, G, L, nL, X) nE r0 pc S)
    (Hcut : ∀ (B : rk_Cut) (S : rk_St), B ∈ cs → rk_ent tA cA lA B S = true → rk_G p l e R s m args below meth c cm sm Q (Pf, K, E, tys, D, A, H0, G, L, nL, X) nE r0 B.1 S) :
    ∀ (n pc : Nat) (S : rk_St), rk_go K ER ap ctr P wr lv rk alts cs eN tA cA lA nE n pc S = true → rk_G p l e R s m args below meth c cm sm Q (Pf, K, E, tys, D, A, H0, G, L, nL, X) nE r0 pc S
  | 0, _, _, h => by cases h
  | n + 1, pc, S, h => by
    unfold rk_go at h
    split at h
    · cases h
    · rename_i ins len hdg
      rw [Bool.and_eq_true] at h
      obtain ⟨hlen, h⟩ := h
      split at h
      · rename_i hret
        have hl1 : len = 1 := by
          cases ins <;> first | (simp [rk_isRet] at hret; done) | exact Nat.beq_eq ▸ hlen
        subst hl1
        exact Hret pc ins S hdg h
      · split at h
        · cases h
        · rename_i out hout
          have hk : ∀ q ∈ out, rk_G p l e R s m args below meth c cm sm Q (Pf, K, E, tys, D, A, H0, G, L, nL, X) nE r0 q.1 q.2 := by
            intro q hq
            have h1 := List.all_eq_true.mp h q hq
            split at h1
            · rename_i B hB
              obtain ⟨b1, b2⟩ := rk_fc_ok cs hB
              rw [← b2]
              exact Hcut B q.2 b1 h1
            · exact rk_go_ok hPw hL0 hPc hPf hx hb hml9 hnL hown hts htb hK hNs hNw hNc hfl hER hap hml hct hBL hB0 hcs hss hac hA hcm hX hX2 hcap Hret Hcut n q.1 q.2 h1
          have hX3 : X + 110000000 ≤ 2147483647 := by
            have : rk_top = 2000000000 := rfl
            omega
          subst hnL
          have kone : Nat.beq len 3 = true → len = 3 := fun h => Nat.beq_eq ▸ h
          unfold rk_step at hout
          split at hout
          · exact rk_s2_ok hPf hx hb hown hts hK hfl hER hap hX hdg hlen hout hk
          · exact rk_s2_ok hPf hx hb hown hts hK hfl hER hap hX hdg hlen hout hk
          · exact rk_s2_ok hPf hx hb hown hts hK hfl hER hap hX hdg hlen hout hk
          · exact rk_s2_ok hPf hx hb hown hts hK hfl hER hap hX hdg hlen hout hk
          · exact rk_s2_ok hPf hx hb hown hts hK hfl hER hap hX hdg hlen hout hk
          · exact rk_s2_ok hPf hx hb hown hts hK hfl hER hap hX hdg hlen hout hk
          · exact rk_s2_ok hPf hx hb hown hts hK hfl hER hap hX hdg hlen hout hk
          · have := kone hlen
            subst this
            exact rk_inv_ok hcap hPw hL0 hPc hx hb hml9 hown hts htb hK hNs hNw hNc hml hct hBL hB0 hA hcm hX (virt := true) hdg hout hk
          · have := kone hlen
            subst this
            split at hout
            · rename_i hi
              exact rk_acp_ok hPf hx hb hml9 hown hK hER hX ((hac _).1 hi) hdg hout hk
            · rename_i hi
              exact rk_mmn_ok hcm hx hb hml9 hown ((hac _).2 hi) hdg hout hk
            · exact rk_inv_ok hcap hPw hL0 hPc hx hb hml9 hown hts htb hK hNs hNw hNc hml hct hBL hB0 hA hcm hX (virt := false) hdg hout hk
          · exact rk_lsw_ok hx hb hdg hout hk
          · rename_i i _ _ _
            split at hout
            · exact rk_s1_ok hx hb hown hcs hX3 hdg hlen hout hk
            · have hl2 : len = 2 := Nat.beq_eq ▸ hlen
              subst hl2
              exact rk_ldS_ok hx hb hown hss hdg hout hk
          · exact rk_s1_ok hx hb hown hcs hX3 hdg hlen hout hk
end RKD
theorem rk_ms_ok {G : Nat → Option Nat} {X : Int} {r r1 : Nat → Value} {lo : List (Nat × Nat)} {fc : List (Nat × Nat × Nat × Int)} {en : List rk_AV} {A B : Int × List (Nat × Int)} {tk : Int} (h : rk_ms lo fc en A B tk = true) (hf : ∀ q ∈ fc, rk_fact r q) (he : ∀ y t, en[y]? = some t → rk_has G X t (r y)) (hr : ∀ q ∈ B.2, ∀ y, rk_lk lo q.1 = some y → r1 q.1 = r y) : B.1 + rk_lv r1 B.2 + tk ≤ A.1 + rk_lv r A.2 := by
  unfold rk_ms at h
  split at h
  · cases h
  · rename_i l2 k2 hs2
    split at h
    · cases h
    · rename_i w hw9
      rw [decide_eq_true_eq] at h
      have h1 := rk_sb_ok (r1 := r1) hf B.2 A.2 l2 _ k2 hr hs2
      have h2 := rk_low_ok he l2 w hw9
      omega
theorem rk_okL_ok {ts : List rk_AV} {c : Int} {l : List (Nat × Int)} (h : rk_okL ts c l = true) : (∀ q ∈ l, q.1 < ts.length ∧ ∃ a b, ts[q.1]? = some (0, a, b)) ∧ ∀ (G : Nat → Option Nat) (X : Int) (r : Nat → Value), (∀ y t, ts[y]? = some t → rk_has G X t (r y)) → 0 ≤ c + rk_lv r l := by
  unfold rk_okL at h
  rw [Bool.and_eq_true, List.all_eq_true] at h
  obtain ⟨h1, h2⟩ := h
  refine ⟨fun q hq => ?_, fun G X r hr => ?_⟩
  · have := h1 q hq
    rw [Bool.and_eq_true, Nat.blt_eq] at this
    refine ⟨this.1, ?_⟩
    have h3 := this.2
    split at h3
    · rename_i a b ht
      exact ⟨a, b, ht⟩
    · cases h3
  · split at h2
    · cases h2
    · rename_i w hw
      rw [decide_eq_true_eq] at h2
      have := rk_low_ok hr l w hw
      omega
theorem rk_xt_ok {lo : List (Nat × Nat)} {kn : List (Nat × Nat × Nat)} {i v : Nat} : ∀ (kf : List (Nat × Nat)) (k : Nat), (i, v) ∈ rk_xt lo kn k kf → ∃ (q : Nat) (z : Nat × Nat) (y : Nat), kf[q]? = some z ∧ i = k + q ∧ rk_lk lo z.1 = some y ∧ rk_kn y z.2 kn = some v
  | [], k, h => by cases h
  | z :: l, k, h => by
    unfold rk_xt at h
    have up : (∃ (q : Nat) (z' : Nat × Nat) (y : Nat), l[q]? = some z' ∧ i = (k + 1) + q ∧ rk_lk lo z'.1 = some y ∧ rk_kn y z'.2 kn = some v) → ∃ (q : Nat) (z' : Nat × Nat) (y : Nat), (z :: l)[q]? = some z' ∧ i = k + q ∧ rk_lk lo z'.1 = some y ∧ rk_kn y z'.2 kn = some v := by
      intro ⟨q, z', y, h1, h2, h3, h4⟩
      exact ⟨q + 1, z', y, by rw [List.getElem?_cons_succ]; exact h1, by omega, h3, h4⟩
    split at h
    · exact up (rk_xt_ok l (k + 1) h)
    · rename_i y hy
      split at h
      · exact up (rk_xt_ok l (k + 1) h)
      · rename_i v' hv
        rcases List.mem_cons.mp h with h | h
        · cases h
          exact ⟨0, z, y, rfl, rfl, hy, hv⟩
        · exact up (rk_xt_ok l (k + 1) h)
theorem rk_kn0_ok {w : Nat × Nat × Nat} : ∀ (kf : List (Nat × Nat)) (k : Nat), w ∈ rk_kn0 k kf → ∃ (q : Nat) (z : Nat × Nat), kf[q]? = some z ∧ w = (z.1, z.2, k + q)
  | [], k, h => by cases h
  | z :: l, k, h => by
    unfold rk_kn0 at h
    rcases List.mem_cons.mp h with h | h
    · exact ⟨0, z, rfl, h⟩
    · obtain ⟨q, z', h1, h2⟩ := rk_kn0_ok l (k + 1) h
      exact ⟨q + 1, z', by rw [List.getElem?_cons_succ]; exact h1, by rw [h2]; simp only [Prod.mk.injEq, true_and]; omega⟩
theorem rk_lk_app {i y : Nat} {xs : List (Nat × Nat)} : ∀ lo : List (Nat × Nat), rk_lk lo i = some y → rk_lk (lo ++ xs) i = some y
  | [], h => by cases h
  | q :: l, h => by
    rw [List.cons_append]
    unfold rk_lk at h ⊢
    split
    · rename_i hq
      rw [if_pos hq] at h
      exact h
    · rename_i hq
      rw [if_neg hq] at h
      exact rk_lk_app l h
end
section
/-- what is wanted of the levels -/
def rk_LvOk (Lv : rk_Lvt) (wr : Nat → rk_Wr) : Prop := ∀ G : Nat → Option Nat, (∀ n f, Lv G n f f) ∧ (∀ f u, Lv G 0 f u → u = f) ∧ (∀ (n m : Nat) (f0 f u : Nat → va_E), rk_lle m n = true → Lv G m f u → Lv G n f0 f → Lv G n f0 u) ∧ ∀ (n : Nat) (f0 f : Nat → va_E) (a k : Nat) (e : va_E) (x y : Int), wr n k x y = true → G a = some k → rk_dif x y (f a) e → Lv G n f0 f → Lv G n f0 (va_up f a e)
def rk_retOk (rk : Nat) (ret : Option FieldType) : Prop := (rk = 0 → ret = none) ∧ (rk = 1 → ret = some .int) ∧ (rk = 2 → ret = some .boolean) ∧ (rk = 3 → ∃ rt, ret = some rt ∧ ((∃ n, rt = .object n) ∨ ∃ t, rt = .array t))
set_option maxHeartbeats 1000000 in
theorem rk_chk_ok {base : Nat} {l : Launch} {K : Nat → rk_KD} {E : Nat → Nat → rk_AV} {tys : List (ClassId × FieldType)} {D : va_G} {NU : State → Prop} {ER : rk_Er} (hER : ∀ k a b t, ER k a b = some t → ∀ j : Nat, a ≤ (j : Int) → (j : Int) ≤ b → E k j = t) {ap : Nat × Nat} (hap : ∀ cA C, tys[ap.1]? = some (cA, .object C) → ∃ q, vwCl[ap.2]? = some q ∧ q.1 = C) (hNw : ∀ (s U : State) (A : Nat → Prop) (locs : List Loc), (∀ q, A q → base ≤ q) → va_S A s.heap U.heap locs → s.WarmedH U.vm → NU s → NU U) (hNc : ∀ u U : State, u.vm = U.vm → u.heap = U.heap → NU u → NU U)
    {Lv : rk_Lvt} {wr : Nat → rk_Wr} (hLv : rk_LvOk Lv wr) {Pw : rk_Pwt} {mt : Nat → rk_Mt} {ctr : rk_Ctr} (hct : ∀ z avs alts C pu, ctr z avs = some (alts, C, pu) → rk_Met base l K E tys D NU Lv Pw (mt z) avs alts C pu) {M : rk_Mt} {P : rk_Pg} (hP1 : P.1 = M.2.1) (hP2 : P.2.1 = M.2.2.1) (hplain : plainName M.1.cls = true)
    (hfl : ∀ (s : State) (args : Array Value), (∀ w ∈ rk_ws M, w.before args s = true) → NU s → rk_FlOk s args (rk_ws M) M.1.cls P.2.2.1) (hml : ∀ (s : State) (args : Array Value), (∀ w ∈ rk_ws M, w.before args s = true) → NU s → rk_MlOk s args { frames := M.2.2.2.2.1, cells := 0, slots := 0, locals := M.2.2.2.2.2 } M.1.cls mt P.2.2.2.1) (hcs : ∀ (s : State) (args : Array Value), (∀ w ∈ rk_ws M, w.before args s = true) → ∀ i v, P.2.2.2.2.1 i = some v → (Jvm.Cond.constant M.1.cls i v).before args s = true) (hss : ∀ (s : State), NU s → ∀ i k, P.2.2.2.2.2.1 i = some k → ∃ (tx : String) (a : Nat), vk_R M.1.cls i tx a s ∧ (E k 0).2.1 = (a : Int))
    (hac : ∀ (s : State) (args : Array Value), (∀ w ∈ rk_ws M, w.before args s = true) → ∀ idx, (P.2.2.2.2.2.2 idx = 1 → (Jvm.Cond.methodLink M.1.cls idx arraycopyName).before args s = true ∧ (Jvm.Cond.native arraycopyName).before args s = true ∧ (Jvm.Cond.static arraycopyName).before args s = true ∧ (Jvm.Cond.initialized "java/lang/System").before args s = true ∧ 1 ≤ M.2.2.2.2.1 ∧ 8 + (nativeFrameWords "java/lang/System" "arraycopy" 5 + 11) ≤ M.2.2.2.2.2) ∧ (P.2.2.2.2.2.2 idx = 2 → (Jvm.Cond.methodLink M.1.cls idx Lib.Math.min.name).before args s = true ∧ (Jvm.Cond.static Lib.Math.min.name).before args s = true ∧ (Jvm.Cond.initialized "java/lang/Math").before args s = true ∧ (Jvm.Cond.code Lib.Math.min.name Lib.Math.min.code 2 (some .int)).before args s = true ∧ 1 ≤ M.2.2.2.2.1 ∧ 8 + 13 ≤ M.2.2.2.2.2))
    {lv : Nat} (hPw : ∀ (G : Nat → Option Nat) (f u : Nat → va_E), Lv G lv f u → Pw G f → Pw G u) {rk : Nat} (hrt : rk_retOk rk M.2.2.2.1) {avs : List rk_AV} {alts : List rk_Alt} {C : Int} {cs : List rk_Cut} {fuel : Nat} (h : rk_chk K ER ap ctr P wr lv rk avs alts C cs fuel = true) : rk_Met base l K E tys D NU Lv Pw M avs alts C lv := by
  intro G X L f av sz hX hXC hall hTY hPw0 hBL hBs
  unfold rk_chk at h
  simp only [Bool.and_eq_true, Nat.ble_eq, decide_eq_true_eq] at h
  obtain ⟨w1, w2, w3, w4, w5⟩ := h
  refine Met.ofW (cc := M.2.1) (maxL := M.2.2.1) (ret := M.2.2.2.1) hplain rfl ?_
  intro p e s m args below meth c s₁ B hml0 hv
  obtain ⟨rfl, hsz, hP, hK, hD0, hN⟩ := hv
  have hx := B.exec
  have hb := B.bytes
  have hr := B.returns
  have hts := atoms_spec (ws := rk_ws M) B.pre
  have hown : s.vm.findClass M.1.cls = some m.cls := findClass_of_methodNamed B.named
  have hlocks := B.notSynchronized
  subst hsz
  have hD := hD0.self (sz := s.heap.size)
  generalize hAe : va_A (va_pl L f) s.heap.size = A at hD ⊢
  have hAb : ∀ q, A q → base ≤ q := fun q h => by
    rw [← hAe] at h
    rcases h with ⟨k, e9, hk9⟩ | h
    · obtain ⟨a, ha, ea⟩ := List.mem_map.mp (List.mem_of_getElem? hk9)
      cases ea
      exact hBL _ ha
    · exact Nat.le_trans hBs h
  have hA : ∀ q : Nat, s.heap.size ≤ q → A q := fun q h => by rw [← hAe]; exact Or.inr h
  have hS : va_S A s.heap s.heap [] := va_S.rf
  have hb' : c.code = P.1 := by rw [hP1]; exact hb
  have hml9 : c.maxLocals = M.2.2.1 := hml0
  have hcat : ∀ v ∈ av, v.category = 1 := by
    intro v hv
    obtain ⟨i, hi⟩ := List.getElem?_of_mem hv
    have hl : i < avs.length := by rw [← hall.1]; exact (List.getElem?_eq_some_iff.mp hi).1
    exact rk_has_cat (hall.2 i _ v (List.getElem?_eq_getElem hl) hi)
  let Qf := MQ below (rk_Q (rk_post K E tys G (X + C) L f av alts Lv lv) (rk_B D tys L A) A) av.toArray s 0 0 A
  -- the end of the method
  have Hret : ∀ (X1 : Int) (nE : Nat) (r0 : Nat → Value) (eN : Nat) (cA : Int) (lA : List (Nat × Int)), 0 ≤ X1 → (∀ q ∈ lA, q.1 < nE) → X1 + (cA + rk_lv r0 lA) ≤ X + C → (∀ i, i < eN → i < nE ∧ av[i]? = some (r0 i)) → ∀ (pc : Nat) (ins : Instr) (S : rk_St), decode P.1 pc = .ok (ins, 1) → rk_rt eN rk alts cA lA ins S = true → rk_G p l e (headSpec (rk_ws M) { frames := M.2.2.2.2.1, cells := 0, slots := 0, locals := M.2.2.2.2.2 }).room s m av.toArray below meth c 0 0 Qf (fun u => Lv G lv f u, K, E, tys, D, A, s.heap, G, L, M.2.2.1, X1) nE r0 pc S := by
    intro X1 nE r0 eN cA lA hX1 hlA hM heN pc ins S hdg hrr r f1 H1 locs1 ls1 st1 hon
    obtain ⟨lo, sk, en, kn, fc, co⟩ := S
    unfold rk_rt at hrr
    rw [Bool.and_eq_true] at hrr
    obtain ⟨hc1, hrr⟩ := hrr
    have hco : X1 + co ≤ X + C := by
      split at hc1
      · cases hc1
      · rename_i w hw
        rw [decide_eq_true_eq] at hc1
        have h1 := rk_low_ok hon.1 lA w hw
        rw [rk_lv_eq hon.2.2.2.2.2.1 lA hlA] at h1
        omega
    obtain ⟨o1, o2, o3, o4, o5, o6, o7, o8⟩ := hon
    obtain ⟨oP, oD, oS, oT, oPf⟩ := o8
    have hargs : ∀ q : Nat × rk_AV, (Nat.blt q.1 eN && (match en[q.1]? with
        | none => false
        | some u => rk_le u q.2)) = true → ∃ w, av[q.1]? = some w ∧ rk_has G (X + C) q.2 w := by
      intro q hq
      rw [Bool.and_eq_true, Nat.blt_eq] at hq
      obtain ⟨q1, q2⟩ := hq
      obtain ⟨b1, b2⟩ := heN _ q1
      refine ⟨r0 q.1, b2, ?_⟩
      split at q2
      · cases q2
      · rename_i u hu
        rw [← o6 _ b1]
        have h3 : rk_has G (X1 + co) u (r q.1) := o1 _ _ hu
        exact rk_has_X hco (rk_le_ok (by omega) q2 h3)
    have hfin : ∀ (v : Option Value), rk_alt G (X + C) av alts v → ∀ t : State, t.heap = H1 → s.WarmedH t.vm → rk_Q (rk_post K E tys G (X + C) L f av alts Lv lv) (rk_B D tys L A) A av.toArray s (.returned v) t := fun v hv t ht hW => ⟨⟨v, f1, rfl, ⟨hv, rk_TY_X hco oT, oPf⟩, ⟨by rw [ht]; exact oP, va_K.moved hW.alike hK, oD⟩⟩, oS.F ht⟩
    have haok : ∀ (t : rk_AV) (w : Value), rk_has G (X1 + co) t w → alts.any (rk_aOK eN en t) = true → rk_alt G (X + C) av alts (some w) := by
      intro t w hw hany
      rw [List.any_eq_true] at hany
      obtain ⟨a, ha, hok⟩ := hany
      unfold rk_aOK at hok
      rw [Bool.and_eq_true, Bool.and_eq_true, List.all_eq_true] at hok
      obtain ⟨h9, hle, hargs9⟩ := hok
      refine ⟨a, ha, ?_, fun q hq => hargs q (hargs9 q hq)⟩
      rw [if_neg (by
        intro h0
        rw [h0] at h9
        simp at h9)]
      exact ⟨w, rfl, rk_has_X hco (rk_le_ok (by omega) hle hw)⟩
    rw [hP1] at hdg
    split at hrr
    · rw [Bool.and_eq_true, Bool.and_eq_true, Nat.beq_eq] at hrr
      obtain ⟨k0, k1, k2⟩ := hrr
      have hsk : sk = [] := by
        cases sk with
        | nil => rfl
        | cons _ _ => simp at k1
      subst hsk
      rw [o5]
      refine W.vret hx hb (by rw [hr]; exact hrt.1 k0) (hfin none ?_) oS.2.2 hdg
      rw [List.any_eq_true] at k2
      obtain ⟨a, ha, hok⟩ := k2
      unfold rk_vOK at hok
      rw [Bool.and_eq_true, List.all_eq_true, Nat.beq_eq] at hok
      refine ⟨a, ha, ?_, fun q hq => hargs q (hok.2 q hq)⟩
      rw [if_pos hok.1]
    · split at hrr
      · rename_i y
        split at hrr
        · cases hrr
        · rename_i t ht
          rw [Bool.and_eq_true, Bool.or_eq_true, Bool.and_eq_true, Bool.and_eq_true, Nat.beq_eq, Nat.beq_eq] at hrr
          obtain ⟨hty, hany⟩ := hrr
          have hv : rk_has G (X1 + co) t (r y) := o1 _ _ ht
          rw [o5]
          rcases hty with ⟨k0, k1⟩ | ⟨k0, k1⟩
          · obtain ⟨x, ex⟩ := rk_isI_ok k1 hv
            simp only [List.map_cons, List.map_nil]
            rw [ex]
            rw [ex] at hv
            exact W.iret hx hb (by rw [hr]; exact hrt.2.1 k0) (hfin _ (haok t _ hv hany)) oS.2.2 hdg
          · obtain ⟨x, ex, p1, p2⟩ := rk_le_ok (X := X1 + co) (by omega) k1 hv
            simp only [List.map_cons, List.map_nil]
            rw [ex]
            rw [ex] at hv
            have hx01 : x = 0 ∨ x = 1 := by
              rcases (by omega : x.toInt = 0 ∨ x.toInt = 1) with h0 | h0
              · exact Or.inl (Int32.toInt_inj.mp h0)
              · exact Or.inr (Int32.toInt_inj.mp h0)
            refine W.zret (ty := .boolean) hx hb (by rw [hr]; exact hrt.2.2.1 k0) ?_ (hfin _ (haok t _ hv hany)) oS.2.2 hdg
            rcases hx01 with rfl | rfl <;> rfl
      · cases hrr
    · split at hrr
      · rename_i y
        split at hrr
        · cases hrr
        · rename_i t ht
          rw [Bool.and_eq_true, Bool.and_eq_true, Nat.beq_eq] at hrr
          obtain ⟨k0, k1, hany⟩ := hrr
          have hv : rk_has G (X1 + co) t (r y) := o1 _ _ ht
          rw [o5]
          obtain ⟨rt, hrt1, hrt2⟩ := hrt.2.2.2 k0
          exact W.aret hx hb (by rw [hr]; exact hrt1) hrt2 (rk_isR_ok k1 hv) (hfin _ (haok t _ hv hany)) oS.2.2 hdg
      · cases hrr
    · cases hrr
  -- the walk from a cut
  have Hcap : ∀ (X1 : Int) (nE : Nat) (r0 : Nat → Value) (cA : Int) (lA : List (Nat × Int)), (∀ q ∈ lA, q.1 < nE) → X1 + (cA + rk_lv r0 lA) ≤ X + C → ∀ (en : List rk_AV) (co X' : Int) (r : Nat → Value), (∀ y, y < nE → r y = r0 y) → (∀ y t, en[y]? = some t → rk_has G X' t (r y)) → rk_cap cA lA en co = true → X1 + co ≤ rk_top := by
    intro X1 nE r0 cA lA hlA hM en co X' r hr0 hen hcap
    unfold rk_cap at hcap
    split at hcap
    · cases hcap
    · rename_i w hw
      rw [decide_eq_true_eq] at hcap
      have h1 := rk_low_ok hen lA w hw
      rw [rk_lv_eq hr0 lA hlA] at h1
      omega
  obtain ⟨hLr, hL0, hLc, hLw⟩ := hLv G
  have Go : ∀ (X1 : Int) (nE : Nat) (r0 : Nat → Value) (eN : Nat) (tA : Option (Int × List (Nat × Int))) (cA : Int) (lA : List (Nat × Int)), 0 ≤ X1 → 0 ≤ cA + rk_lv r0 lA → (∀ q ∈ lA, q.1 < nE) → X1 + (cA + rk_lv r0 lA) ≤ X + C → (∀ i, i < eN → i < nE ∧ av[i]? = some (r0 i)) → (∀ (B : rk_Cut) (S : rk_St), B ∈ cs → rk_ent tA cA lA B S = true → rk_G p l e (headSpec (rk_ws M) { frames := M.2.2.2.2.1, cells := 0, slots := 0, locals := M.2.2.2.2.2 }).room s m av.toArray below meth c 0 0 Qf (fun u => Lv G lv f u, K, E, tys, D, A, s.heap, G, L, M.2.2.1, X1) nE r0 B.1 S) → ∀ (pc : Nat) (S : rk_St), rk_go K ER ap ctr P wr lv rk alts cs eN tA cA lA nE fuel pc S = true → rk_G p l e (headSpec (rk_ws M) { frames := M.2.2.2.2.1, cells := 0, slots := 0, locals := M.2.2.2.2.2 }).room s m av.toArray below meth c 0 0 Qf (fun u => Lv G lv f u, K, E, tys, D, A, s.heap, G, L, M.2.2.1, X1) nE r0 pc S := by
    intro X1 nE r0 eN tA cA lA hX1 hM0 hlA hM heN Hcut pc S hgo
    exact rk_go_ok (Pf := fun u => Lv G lv f u) (fun u hu => hPw G f u hu hPw0) hL0 (fun n f1 u h1 h2 h3 => hLc lv n f f1 u h1 h2 h3) (fun f1 a k e9 x y h1 h2 h3 h4 => hLw lv f f1 a k e9 x y h1 h2 h3 h4) hx hb' hml9 hP2 hown hts (fun w hw => List.mem_cons_of_mem _ hw) hK hN (fun U locs hS9 hW => hNw s U A locs hAb hS9 hW hN) hNc (hfl s _ hts hN) hER hap (hml s _ hts hN) hct hBL hBs (hcs s _ hts) (hss s hN) (hac s _ hts) hA ⟨Nat.zero_le _, Nat.zero_le _⟩ hX1 (by omega) (Hcap X1 nE r0 cA lA hlA hM) (Hret X1 nE r0 eN cA lA hX1 hlA hM heN) Hcut fuel pc S hgo
  -- what a cut's own rows say
  have hcut : ∀ B ∈ cs, rk_okK P.2.1 (rk_nT B) B.2.1 B.2.2.1 = true ∧ rk_okL B.2.1 B.2.2.2.1.1 B.2.2.2.1.2 = true ∧ rk_okL B.2.1 B.2.2.2.2.1 B.2.2.2.2.2 = true ∧ B.2.2.1.length ≤ B.2.1.length ∧ rk_go K ER ap ctr P wr lv rk alts cs 0 (some B.2.2.2.1) B.2.2.2.2.1 B.2.2.2.2.2 B.2.1.length fuel B.1 (rk_S0 (rk_nT B) B.2.1 B.2.2.1) = true := by
    intro B hB
    have hBc := List.all_eq_true.mp w5 B hB
    rw [Bool.and_eq_true, Bool.and_eq_true, Bool.and_eq_true, Bool.and_eq_true, Bool.and_eq_true, Bool.and_eq_true] at hBc
    obtain ⟨-, -, c3, c4, c5, c6, c7⟩ := hBc
    exact ⟨c4, c5, c6, Nat.ble_eq ▸ c3, c7⟩
  -- what holds as a cut is come to
  have Arr : ∀ (X1 : Int) (nE : Nat) (r0 : Nat → Value) (tA : Option (Int × List (Nat × Int))) (cA : Int) (lA : List (Nat × Int)), 0 ≤ X1 → (∀ q ∈ lA, q.1 < nE) → (∀ a, tA = some a → ∀ q ∈ a.2, q.1 < nE) → ∀ (B : rk_Cut) (S : rk_St), B ∈ cs → rk_ent tA cA lA B S = true → ∀ (r : Nat → Value) (f2 : Nat → va_E) (H2 : Heap) (locs2 : List Loc) (ls2 : Array Slot) (st2 : List Value), rk_on (fun u => Lv G lv f u, K, E, tys, D, A, s.heap, G, L, M.2.2.1, X1) nE r0 r S f2 H2 locs2 ls2 st2 →
      ∃ (r1 : Nat → Value) (co : Int), st2 = [] ∧ 0 ≤ co ∧ 0 ≤ B.2.2.2.2.1 + rk_lv r1 B.2.2.2.2.2 ∧ 0 ≤ B.2.2.2.1.1 + rk_lv r1 B.2.2.2.1.2 ∧ B.2.2.2.2.1 + rk_lv r1 B.2.2.2.2.2 + co ≤ cA + rk_lv r0 lA ∧ (∀ a, tA = some a → B.2.2.2.1.1 + rk_lv r1 B.2.2.2.1.2 + 1 ≤ a.1 + rk_lv r0 a.2) ∧ (∀ y t, B.2.1[y]? = some t → rk_has G (X1 + co) t (r1 y)) ∧ lv_has ls2 M.2.2.1 ((rk_loc 0 (B.2.1.take (rk_nT B))).map fun q => (q.1, r1 q.2)) ∧ (∀ q ∈ rk_kn0 (rk_nT B) B.2.2.1, ∃ a, r1 q.1 = .ref a ∧ rk_kf r1 (f2 a) q.2.1 = some (r1 q.2.2)) ∧ rk_w (fun u => Lv G lv f u, K, E, tys, D, A, s.heap, G, L, M.2.2.1, X1 + co) 0 f2 H2 locs2 := by
    intro X1 nE r0 tA cA lA hX1 hlA htA B S hB hent r f2 H2 locs2 ls2 st2 hon
    obtain ⟨ck, ct, cc9, cl9, -⟩ := hcut B hB
    have ct := rk_okL_ok ct
    have cc9 := rk_okL_ok cc9
    unfold rk_okK at ck
    rw [Bool.and_eq_true, Bool.and_eq_true, List.all_eq_true, List.all_eq_true, Bool.or_eq_true, Nat.beq_eq] at ck
    obtain ⟨ck0, ck1, ck2⟩ := ck
    obtain ⟨lo, sk, en, kn, fc, co⟩ := S
    rcases sk with _ | ⟨y0, sk⟩
    · simp only [rk_ent] at hent
      rw [Bool.and_eq_true, Bool.and_eq_true] at hent
      obtain ⟨hfit, hms, hmt⟩ := hent
      obtain ⟨o1, o2, o3, o4, o5, o6, o7, o8⟩ := hon
      generalize hlo2 : lo ++ rk_xt lo kn (rk_nT B) B.2.2.1 = lo2 at hfit hms hmt
      have hf2 := rk_fit2_ok B.2.1 0 hfit
      -- the locals as the new start's symbols
      let r1 : Nat → Value := fun i => if (match B.2.1[i]? with
        | some t => Nat.blt t.1 4
        | none => false) then (match rk_lk lo2 i with
          | some y => r y
          | none => .null) else .null
      have hr1 : ∀ (i : Nat) (t : rk_AV), B.2.1[i]? = some t → t.1 < 4 → ∃ y u, rk_lk lo2 i = some y ∧ en[y]? = some u ∧ rk_le u t = true ∧ r1 i = r y := by
        intro i t ht h4
        obtain ⟨y, u, e1, e2, e3⟩ := hf2 i t ht h4
        rw [Nat.zero_add] at e1
        refine ⟨y, u, e1, e2, e3, ?_⟩
        show (if (match B.2.1[i]? with
          | some t => Nat.blt t.1 4
          | none => false) then (match rk_lk lo2 i with
            | some y => r y
            | none => .null) else .null) = r y
        rw [ht]
        dsimp only
        rw [if_pos (by rw [Nat.blt_eq]; exact h4), e1]
      have hty : ∀ y t, B.2.1[y]? = some t → rk_has G (X1 + co) t (r1 y) := by
        intro y t ht
        by_cases h4 : t.1 < 4
        · obtain ⟨z, u, e1, e2, e3, e4⟩ := hr1 y t ht h4
          rw [e4]
          exact rk_le_ok (by omega) e3 (o1 _ _ e2)
        · have hnull : r1 y = .null := by
            show (if (match B.2.1[y]? with
              | some t => Nat.blt t.1 4
              | none => false) then (match rk_lk lo2 y with
                | some y => r y
                | none => .null) else .null) = .null
            rw [ht]
            dsimp only
            rw [if_neg (by rw [Nat.blt_eq]; exact h4)]
          rw [hnull]
          obtain ⟨n, a, b⟩ := t
          dsimp only at h4
          rcases n with _ | _ | _ | _ | n
          · omega
          · omega
          · omega
          · omega
          · exact Or.inl rfl
      have hsb : ∀ (l9 : List (Nat × Int)), (∀ q ∈ l9, q.1 < B.2.1.length ∧ ∃ a b, B.2.1[q.1]? = some (0, a, b)) → ∀ q ∈ l9, ∀ y, rk_lk lo2 q.1 = some y → r1 q.1 = r y := by
        intro l9 h9 q hq y hy
        obtain ⟨g1, a, b, ht⟩ := h9 q hq
        obtain ⟨z, u, e1, e2, e3, e4⟩ := hr1 q.1 _ ht (by simp)
        rw [e4]
        rw [hy] at e1
        cases e1
        rfl
      have hin : ∀ i y, i < rk_nT B → rk_lk lo2 i = some y → (i, y) ∈ lo := by
        intro i y hi hy
        have := rk_lk_ok lo2 hy
        rw [← hlo2] at this
        rcases List.mem_append.mp this with h | h
        · exact h
        · obtain ⟨q, z, y', -, e2, -⟩ := rk_xt_ok _ _ h
          omega
      refine ⟨r1, co, o5, o7.1, cc9.2 G _ r1 hty, ct.2 G _ r1 hty, ?_, ?_, hty, ?_, ?_, ?_⟩
      · have := rk_ms_ok (r1 := r1) hms o3 o1 (hsb _ cc9.1)
        dsimp only at this
        rw [rk_lv_eq o6 lA hlA] at this
        exact this
      · intro a ha
        subst ha
        have := rk_ms_ok (r1 := r1) hmt o3 o1 (hsb _ ct.1)
        rw [rk_lv_eq o6 a.2 (htA a rfl)] at this
        exact this
      · refine ⟨o4.1, o4.2.1, fun q hq => ?_⟩
        obtain ⟨z, hz, rfl⟩ := List.mem_map.mp hq
        obtain ⟨i, t, e1, e2, e3⟩ := rk_loc_ok _ 0 hz
        rw [Nat.zero_add] at e1
        subst e1
        have hiT : i < rk_nT B := by
          have := (List.getElem?_eq_some_iff.mp e2).1
          rw [List.length_take] at this
          omega
        rw [List.getElem?_take_of_lt hiT] at e2
        obtain ⟨y, u, d1, d2, d3, d4⟩ := hr1 i t e2 e3
        dsimp only
        rw [d4]
        exact o4.2.2 (i, r y) (List.mem_map.mpr ⟨(i, y), hin i y hiT d1, rfl⟩)
      · intro q hq
        obtain ⟨k, z, hz, rfl⟩ := rk_kn0_ok _ _ hq
        dsimp only
        have hz2 := ck1 z (List.mem_of_getElem? hz)
        rw [Bool.and_eq_true, Bool.and_eq_true, Nat.blt_eq, Nat.blt_eq] at hz2
        obtain ⟨z1, z2, z3⟩ := hz2
        have hkl : k < B.2.2.1.length := (List.getElem?_eq_some_iff.mp hz).1
        have hpl : rk_nT B + k < B.2.1.length := by
          unfold rk_nT
          omega
        have htp : B.2.1[rk_nT B + k]? = some B.2.1[rk_nT B + k] := List.getElem?_eq_getElem hpl
        have ht4 : (B.2.1[rk_nT B + k]).1 < 4 := by
          have := ck2 (B.2.1[rk_nT B + k]) (by
            rw [List.mem_iff_getElem?]
            exact ⟨k, by rw [List.getElem?_drop]; exact htp⟩)
          rw [Nat.blt_eq] at this
          exact this
        obtain ⟨v, u, d1, d2, d3, d4⟩ := hr1 _ _ htp ht4
        have hmem := rk_lk_ok lo2 d1
        rw [← hlo2] at hmem
        have hx9 : ∃ y, rk_lk lo z.1 = some y ∧ rk_kn y z.2 kn = some v := by
          rcases List.mem_append.mp hmem with h | h
          · -- a local beyond the locals: it isn't there
            have h5 := lv_lt (o4.2.2 (rk_nT B + k, r v) (List.mem_map.mpr ⟨(rk_nT B + k, v), h, rfl⟩))
            rw [o4.1] at h5
            have h6 : rk_fn (fun u => Lv G lv f u, K, E, tys, D, A, s.heap, G, L, M.2.2.1, X1) = M.2.2.1 := rfl
            rw [h6] at h5
            rcases ck0 with h7 | h7
            · rw [List.isEmpty_iff] at h7
              rw [h7] at hkl
              simp at hkl
            · omega
          · obtain ⟨q, z', y', e1, e2, e3, e4⟩ := rk_xt_ok _ _ h
            have : q = k := by omega
            subst this
            rw [hz] at e1
            cases e1
            exact ⟨y', e3, e4⟩
        obtain ⟨y, hy1, hy2⟩ := hx9
        obtain ⟨a, b1, b2⟩ := o2 _ (rk_kn_ok kn hy2)
        dsimp only at b1 b2
        have hrz : r1 z.1 = r y := by
          split at z3
          · rename_i t ht
            rw [Nat.blt_eq] at z3
            obtain ⟨y9, u9, g1, g2, g3, g4⟩ := hr1 z.1 t ht z3
            have h1 := rk_lk_app (xs := rk_xt lo kn (rk_nT B) B.2.2.1) lo hy1
            rw [hlo2, g1] at h1
            cases h1
            exact g4
          · cases z3
        refine ⟨a, by rw [hrz]; exact b1, ?_⟩
        rw [d4, ← b2]
        unfold rk_kf
        rw [if_pos z2, if_pos z2]
      · obtain ⟨a1, a2, a3, a4, a5⟩ := o8
        refine ⟨a1, a2, a3, ?_, a5⟩
        rw [Int.add_zero]
        exact a4
    · simp [rk_ent] at hent
  -- cuts by their measure
  have Cuts : ∀ (n : Nat) (B : rk_Cut), B ∈ cs → ∀ (X1 : Int) (r1 : Nat → Value) (f1 : Nat → va_E) (H1 : Heap) (locs1 : List Loc) (ls1 : Array Slot), 0 ≤ X1 → 0 ≤ B.2.2.2.2.1 + rk_lv r1 B.2.2.2.2.2 → (B.2.2.2.1.1 + rk_lv r1 B.2.2.2.1.2).toNat < n → X1 + (B.2.2.2.2.1 + rk_lv r1 B.2.2.2.2.2) ≤ X + C → (∀ y t, B.2.1[y]? = some t → rk_has G X1 t (r1 y)) → lv_has ls1 M.2.2.1 ((rk_loc 0 (B.2.1.take (rk_nT B))).map fun q => (q.1, r1 q.2)) → (∀ q ∈ rk_kn0 (rk_nT B) B.2.2.1, ∃ a, r1 q.1 = .ref a ∧ rk_kf r1 (f1 a) q.2.1 = some (r1 q.2.2)) → rk_w (fun u => Lv G lv f u, K, E, tys, D, A, s.heap, G, L, M.2.2.1, X1) 0 f1 H1 locs1 → W p l e (headSpec (rk_ws M) { frames := M.2.2.2.2.1, cells := 0, slots := 0, locals := M.2.2.2.2.2 }).room s m av.toArray below meth c H1 locs1 0 0 Qf (F0 m B.1 ls1 []) := by
    intro n
    induction n with
    | zero => intro B _ X1 r1 f1 H1 locs1 ls1 _ _ h9; omega
    | succ n ih =>
      intro B hB X1 r1 f1 H1 locs1 ls1 hX1 hM0 hn hM hty hls hkn hw
      obtain ⟨-, ct, cc9, -, c5⟩ := hcut B hB
      have ct := rk_okL_ok ct
      have cc9 := rk_okL_ok cc9
      have hon : rk_on (fun u => Lv G lv f u, K, E, tys, D, A, s.heap, G, L, M.2.2.1, X1) B.2.1.length r1 r1 (rk_S0 (rk_nT B) B.2.1 B.2.2.1) f1 H1 locs1 ls1 [] := by
        refine ⟨fun y t ht => ?_, hkn, fun q hq => (by cases hq), hls, rfl, fun _ _ => rfl, ⟨Int.le_refl 0, by omega⟩, hw⟩
        show rk_has G (X1 + 0) t (r1 y)
        rw [Int.add_zero]
        exact hty y t ht
      refine Go X1 B.2.1.length r1 0 (some B.2.2.2.1) B.2.2.2.2.1 B.2.2.2.2.2 hX1 hM0 (fun q hq => (cc9.1 q hq).1) hM (fun i hi => by omega) ?_ B.1 (rk_S0 (rk_nT B) B.2.1 B.2.2.1) c5 r1 f1 H1 locs1 ls1 [] hon
      intro B2 S2 hB2 hent r f2 H2 locs2 ls2 st2 hon2
      obtain ⟨r2, co, e1, e2, e3, e3t, e4, e4t, e5, e6, e6k, e7⟩ := Arr X1 B.2.1.length r1 (some B.2.2.2.1) B.2.2.2.2.1 B.2.2.2.2.2 hX1 (fun q hq => (cc9.1 q hq).1) (fun a ha q hq => by cases ha; exact (ct.1 q hq).1) B2 S2 hB2 hent r f2 H2 locs2 ls2 st2 hon2
      have e4t := e4t _ rfl
      subst e1
      exact ih B2 hB2 (X1 + co) r2 f2 H2 locs2 ls2 (by omega) e3 (by omega) (by omega) e5 e6 e6k e7
  -- the entry
  have hlen : (lg_sl av).length ≤ M.2.2.1 := by
    rw [rk_sl_len av hcat, hall.1, ← hP2]
    exact w1
  have hl := lv_entry av (n := M.2.2.1) hlen
  rw [lg_entry_eq]
  generalize (lg_sl av ++ List.replicate (M.2.2.1 - (lg_sl av).length) Slot.unset).toArray = ls at hl ⊢
  have hg0 : ∀ (i : Nat) (v : Value), av[i]? = some v → av.getD i .null = v := fun i v h9 => by rw [List.getD_eq_getElem?_getD, h9]; rfl
  have hty0 : ∀ (y : Nat) (t : rk_AV), avs[y]? = some t → ∃ v : Value, av[y]? = some v ∧ rk_has G X t v := by
    intro y t ht
    have hy : y < av.length := by rw [hall.1]; exact (List.getElem?_eq_some_iff.mp ht).1
    exact ⟨av[y], List.getElem?_eq_getElem hy, hall.2 y t _ ht (List.getElem?_eq_getElem hy)⟩
  have hw0 : rk_w (fun u => Lv G lv f u, K, E, tys, D, A, s.heap, G, L, M.2.2.1, X) 0 f s.heap [] := ⟨hP, hD, hS, by rw [Int.add_zero]; exact hTY, hLr lv f⟩
  have hon : rk_on (fun u => Lv G lv f u, K, E, tys, D, A, s.heap, G, L, M.2.2.1, X) avs.length (fun i => av.getD i .null) (fun i => av.getD i .null) (rk_S0 avs.length avs []) f s.heap [] ls [] := by
    refine ⟨fun y t ht => ?_, fun q hq => (by cases hq), fun q hq => (by cases hq), ⟨hl.1, hl.2.1, fun q hq => ?_⟩, rfl, fun _ _ => rfl, ⟨Int.le_refl 0, by omega⟩, hw0⟩
    · show rk_has G (X + 0) t (av.getD y .null)
      rw [Int.add_zero]
      obtain ⟨v, e1, e2⟩ := hty0 y t ht
      rw [hg0 y v e1]
      exact e2
    · obtain ⟨z, hz, rfl⟩ := List.mem_map.mp hq
      rw [List.take_length] at hz
      obtain ⟨i, t, e1, e2, e3⟩ := rk_loc_ok avs 0 hz
      rw [Nat.zero_add] at e1
      subst e1
      obtain ⟨v, d1, d2⟩ := hty0 i t e2
      dsimp only
      rw [hg0 i v d1]
      have := rk_args_in av 0 i hcat d1
      rw [Nat.zero_add] at this
      exact hl.2.2 _ this
  refine Go X avs.length (fun i => av.getD i .null) avs.length none C [] hX (by simp only [rk_lv]; omega) (fun q hq => by cases hq) (by simp only [rk_lv]; omega) (fun i hi => ⟨hi, ?_⟩) ?_ 0 (rk_S0 avs.length avs []) w4 _ f s.heap [] ls [] hon
  · have hi2 : i < av.length := by rw [hall.1]; exact hi
    rw [hg0 i _ (List.getElem?_eq_getElem hi2)]
    exact List.getElem?_eq_getElem hi2
  · intro B2 S2 hB2 hent r f2 H2 locs2 ls2 st2 hon2
    obtain ⟨r2, co, e1, e2, e3, e3t, e4, -, e5, e6, e6k, e7⟩ := Arr X avs.length (fun i => av.getD i .null) none C [] hX (fun q hq => by cases hq) (fun a ha => by cases ha) B2 S2 hB2 hent r f2 H2 locs2 ls2 st2 hon2
    subst e1
    simp only [rk_lv] at e4
    exact Cuts _ B2 hB2 (X + co) r2 f2 H2 locs2 ls2 (by omega) e3 (Nat.lt_succ_self _) (by omega) e5 e6 e6k e7
end
section
/-! tables out of lists -/
abbrev rk_Ent : Type := Nat × List rk_AV × List rk_Alt × Int × Nat
def rk_les : List rk_AV → List rk_AV → Bool
  | [], [] => true
  | a :: l, b :: m => rk_le a b && rk_les l m
  | _, _ => false
theorem rk_les_ok {G : Nat → Option Nat} {X : Int} (hX : 0 ≤ X) : ∀ (a b : List rk_AV) (av : List Value), rk_les a b = true → rk_all G X a av → rk_all G X b av
  | [], [], av, _, h => h
  | a :: l, b :: m, av, h, ha => by
    unfold rk_les at h
    rw [Bool.and_eq_true] at h
    cases av with
    | nil => exact absurd ha.1 (by simp)
    | cons v vs =>
      have ih := rk_les_ok hX l m vs h.2 ⟨by have := ha.1; simpa using this, fun i t w ht hw => ha.2 (i + 1) t w (by rw [List.getElem?_cons_succ]; exact ht) (by rw [List.getElem?_cons_succ]; exact hw)⟩
      refine ⟨by simp [ih.1], fun i t w ht hw => ?_⟩
      rcases i with _ | i
      · simp only [List.getElem?_cons_zero, Option.some.injEq] at ht hw
        subst ht hw
        exact rk_le_ok hX h.1 (ha.2 0 a v rfl rfl)
      · rw [List.getElem?_cons_succ] at ht hw
        exact ih.2 i t w ht hw
  | [], _ :: _, _, h, _ => by simp [rk_les] at h
  | _ :: _, [], _, h, _ => by simp [rk_les] at h
def rk_look : List rk_Ent → Nat → List rk_AV → Option (List rk_Alt × Int × Nat)
  | [], _, _ => none
  | q :: l, z, avs => if Nat.beq q.1 z && rk_les avs q.2.1 then some q.2.2 else rk_look l z avs
theorem rk_look_ok {base : Nat} {l : Launch} {K : Nat → rk_KD} {E : Nat → Nat → rk_AV} {tys : List (ClassId × FieldType)} {D : va_G} {NU : State → Prop} {Lv : rk_Lvt} {Pw : rk_Pwt} {mt : Nat → rk_Mt} : ∀ (es : List rk_Ent), (∀ q ∈ es, rk_Met base l K E tys D NU Lv Pw (mt q.1) q.2.1 q.2.2.1 q.2.2.2.1 q.2.2.2.2) → ∀ z avs alts C pu, rk_look es z avs = some (alts, C, pu) → rk_Met base l K E tys D NU Lv Pw (mt z) avs alts C pu
  | [], _, z, avs, alts, C, pu, h => by cases h
  | q :: es, hq, z, avs, alts, C, pu, h => by
    unfold rk_look at h
    split at h
    · rename_i hc
      rw [Bool.and_eq_true, Nat.beq_eq] at hc
      have h1 := hq q List.mem_cons_self
      obtain ⟨z', ps, alts', C', pu'⟩ := q
      dsimp only at hc h h1
      obtain ⟨rfl, hle⟩ := hc
      cases h
      intro G X L f av sz hX hXC hall
      exact h1 G X L f av sz hX hXC (rk_les_ok hX _ _ _ hle hall)
    · exact rk_look_ok es (fun p hp => hq p (List.mem_cons_of_mem _ hp)) z avs alts C pu h
def rk_flf : List (Nat × Nat × Nat × Nat) → rk_Fl
  | [], _ => none
  | q :: l, i => if Nat.beq q.1 i then some q.2 else rk_flf l i
theorem rk_flf_ok {i : Nat} {w : Nat × Nat × Nat} : ∀ l : List (Nat × Nat × Nat × Nat), rk_flf l i = some w → (i, w) ∈ l
  | [], h => by cases h
  | q :: l, h => by
    unfold rk_flf at h
    split at h
    · rename_i hq
      rw [Nat.beq_eq] at hq
      cases h
      subst hq
      exact List.mem_cons_self
    · exact List.mem_cons_of_mem _ (rk_flf_ok l h)
def rk_F1 (s : State) (args : Array Value) (Ts : List Jvm.Cond) (own : String) (q : Nat × Nat × Nat × Nat) : Prop := ∃ (C : String) (T : u_T) (N : Nat) (ty0 : Nat → FieldType), vwCl[q.2.1]? = some (C, T, N) ∧ q.2.2.1 < N ∧ (∀ z ∈ u_ws C T N, z ∈ Ts) ∧ (∀ j, j < N → parseFieldDescriptor (T j).2.2.1 = some (ty0 j)) ∧ (∀ a, a < N → ∀ b, b < N → a ≠ b → (T a).2.1 ≠ (T b).2.1) ∧
  ((Jvm.Cond.fieldLink own q.1 (T q.2.2.1).1 (T q.2.2.1).2.1 (T q.2.2.1).2.2.1).before args s = true ∨ ∃ host : String, (Jvm.Cond.fieldLinkNest own q.1 (T q.2.2.1).1 (T q.2.2.1).2.1 (T q.2.2.1).2.2.1 host).before args s = true) ∧
  (q.2.2.2 < 3 → (T q.2.2.1).2.2.2 = false) ∧ (q.2.2.2 = 0 → ty0 q.2.2.1 = .int) ∧ (q.2.2.2 = 1 → ty0 q.2.2.1 = .boolean) ∧ (q.2.2.2 = 2 → ∃ n, ty0 q.2.2.1 = .object n)
theorem rk_FlOk_of {s : State} {args : Array Value} {Ts : List Jvm.Cond} {own : String} {tbl : List (Nat × Nat × Nat × Nat)} (h : ∀ q ∈ tbl, rk_F1 s args Ts own q) : rk_FlOk s args Ts own (rk_flf tbl) := fun idx ci k w hi => h (idx, ci, k, w) (rk_flf_ok tbl hi)
def rk_mlf : List (Nat × Nat × Nat × Nat) → rk_Ml := rk_flf
def rk_mt (l : List rk_Mt) (z : Nat) : rk_Mt := l.getD z (⟨"", "", ""⟩, ⟨#[]⟩, 0, none, 0, 0)
/-- a call's words, but its room -/
def rk_M1 (s : State) (args : Array Value) (own : String) (idx : Nat) (M : rk_Mt) (n cr : Nat) : Prop := Jvm.Cond.code M.1 M.2.1 M.2.2.1 M.2.2.2.1 ∈ rk_tbl ∧ (Jvm.Cond.initialized M.1.cls).before args s = true ∧ (M.1.cls ≠ "java/lang/invoke/MethodHandle" ∧ M.1.cls ≠ "java/lang/invoke/VarHandle") ∧
  ((Jvm.Cond.methodLink own idx M.1).before args s = true ∨ ∃ host : String, va_Nw (.methodLinkNest own idx M.1 host) s) ∧
  (cr = 0 → (Jvm.Cond.static M.1).before args s = true ∧ (parseMethodDescriptor M.1.desc).map (fun d => d.parameters.length) = some n) ∧
  (∀ ci, cr = ci + 1 → (Jvm.Cond.instanceMethod M.1).before args s = true ∧ (Jvm.Cond.selects M.1.cls M.1 M.1).before args s = true ∧ (∃ q, vwCl[ci]? = some q ∧ q.1 = M.1.cls) ∧ ∃ k, n = k + 1 ∧ (parseMethodDescriptor M.1.desc).map (fun d => d.parameters.length) = some k)
def rk_roomOk (fr lc : Nat) (mt : Nat → rk_Mt) (tbl : List (Nat × Nat × Nat × Nat)) : Bool := tbl.all (fun q => Nat.ble ((mt q.2.1).2.2.2.2.1 + 1) fr && Nat.ble (8 + ((mt q.2.1).2.2.1 + 11) + (mt q.2.1).2.2.2.2.2) lc)
theorem rk_MlOk_of {s : State} {args : Array Value} {fr lc : Nat} {own : String} {mt : Nat → rk_Mt} {tbl : List (Nat × Nat × Nat × Nat)} (h : ∀ q ∈ tbl, rk_M1 s args own q.1 (mt q.2.1) q.2.2.1 q.2.2.2) (hr : rk_roomOk fr lc mt tbl = true) : rk_MlOk s args { frames := fr, cells := 0, slots := 0, locals := lc } own mt (rk_mlf tbl) := by
  intro idx z n cr hi
  have hm := rk_flf_ok tbl hi
  obtain ⟨h1, h2, h3, h4, h5, h6⟩ := h _ hm
  have h7 := List.all_eq_true.mp hr _ hm
  rw [Bool.and_eq_true, Nat.ble_eq, Nat.ble_eq] at h7
  exact ⟨h1, h2, h3, h4, h7, h5, h6⟩
def rk_csf : List (Nat × Int32) → Nat → Option Int32
  | [], _ => none
  | q :: l, i => if Nat.beq q.1 i then some q.2 else rk_csf l i
theorem rk_csf_ok {i : Nat} {v : Int32} : ∀ l : List (Nat × Int32), rk_csf l i = some v → (i, v) ∈ l
  | [], h => by cases h
  | q :: l, h => by
    unfold rk_csf at h
    split at h
    · rename_i hq
      rw [Nat.beq_eq] at hq
      cases h
      subst hq
      exact List.mem_cons_self
    · exact List.mem_cons_of_mem _ (rk_csf_ok l h)
def rk_ssf : List (Nat × Nat) → Nat → Option Nat := rk_lk
def rk_acf (a m : List Nat) (i : Nat) : Nat := if a.any (fun x => Nat.beq x i) then 1 else if m.any (fun x => Nat.beq x i) then 2 else 0
theorem rk_acf_ok {a m : List Nat} {P Q : Nat → Prop} (ha : ∀ i ∈ a, P i) (hm : ∀ i ∈ m, Q i) : ∀ idx, (rk_acf a m idx = 1 → P idx) ∧ (rk_acf a m idx = 2 → Q idx) := by
  intro idx
  have inl : ∀ l : List Nat, l.any (fun x => Nat.beq x idx) = true → idx ∈ l := by
    intro l h
    obtain ⟨x, h1, h2⟩ := List.any_eq_true.mp h
    rw [Nat.beq_eq] at h2
    exact h2 ▸ h1
  unfold rk_acf
  split
  · rename_i h
    exact ⟨fun _ => ha _ (inl _ h), fun h => absurd h (by decide)⟩
  · split
    · rename_i h
      exact ⟨fun h => absurd h (by decide), fun _ => hm _ (inl _ h)⟩
    · exact ⟨fun h => absurd h (by decide), fun h => absurd h (by decide)⟩
theorem rk_in_tbl (i : Nat) {w : Jvm.Cond} (h : lw_tbl[i]? = some w) (hg : goodWord w = true) : w ∈ rk_tbl := List.mem_filter.mpr ⟨List.mem_of_getElem? h, hg⟩
theorem rk_wk {base : Nat} {l : Launch} {K : Nat → rk_KD} {E : Nat → Nat → rk_AV} {tys : List (ClassId × FieldType)} {D : va_G} {NU : State → Prop} {Lv : rk_Lvt} {Pw : rk_Pwt} {M : rk_Mt} {avs : List rk_AV} {alts : List rk_Alt} {C : Int} {lv : Nat} (h : rk_Met base l K E tys D NU Lv (fun _ _ => True) M avs alts C lv) : rk_Met base l K E tys D NU Lv Pw M avs alts C lv := fun G X L f av sz h1 h2 h3 h4 _ h5 h6 => h G X L f av sz h1 h2 h3 h4 trivial h5 h6
end
section
/-! straight rows run by computation: a goal at a place of the code becomes the goals where it stops -/
abbrev rv_T : Type := Lean.RArray (Nat × Instr × Nat)
noncomputable def rv_g {α : Type} (t : Lean.RArray α) : Nat → α :=
  @Lean.RArray.rec α (fun _ => Nat → α) (fun x _ => x) (fun _ _ _ gl gr i => @Bool.rec (fun _ => α) (gr (Nat.div i 2)) (gl (Nat.div i 2)) (Nat.beq (Nat.mod i 2) 0)) t
def rv_lvs {α : Type} : Lean.RArray α → List α
  | .leaf x => [x]
  | .branch _ l r => rv_lvs l ++ rv_lvs r
theorem rv_lvsE {α : Type} : ∀ (t : Lean.RArray α) (i : Nat), rv_g t i ∈ rv_lvs t
  | .leaf x, i => List.mem_singleton.mpr rfl
  | .branch _ l r, i => by
    show @Bool.rec (fun _ => α) (rv_g r (Nat.div i 2)) (rv_g l (Nat.div i 2)) (Nat.beq (Nat.mod i 2) 0) ∈ rv_lvs l ++ rv_lvs r
    cases Nat.beq (Nat.mod i 2) 0
    · exact List.mem_append_right _ (rv_lvsE r _)
    · exact List.mem_append_left _ (rv_lvsE l _)
/-- each row of a table (but the empty ones, at place 99999) is what the code has there -/
def rv_tok (cc : ByteArray) (T : rv_T) : Bool := (rv_lvs T).all (fun q => Nat.beq q.1 99999 || decide (decode cc q.1 = .ok q.2))
theorem rv_tokE {cc : ByteArray} {T : rv_T} (h : rv_tok cc T = true) {pc : Nat} {ins : Instr} {len : Nat} (hg : rv_g T pc = (pc, ins, len)) (h9 : Nat.beq pc 99999 = false) : decode cc pc = .ok (ins, len) := by
  have h1 := List.all_eq_true.mp h _ (rv_lvsE T pc)
  rw [hg] at h1
  simp only [h9, Bool.false_or, decide_eq_true_eq] at h1
  exact h1
def rv_lk : List (Nat × Value) → Nat → Value
  | [], _ => .null
  | q :: l, i => match Nat.beq q.1 i with
    | true => q.2
    | false => rv_lk l i
theorem rv_lkE {i : Nat} : ∀ lo : List (Nat × Value), rv_lk lo i ≠ .null → (i, rv_lk lo i) ∈ lo
  | [], h => absurd rfl h
  | q :: l, h => by
    unfold rv_lk at h ⊢
    cases hq : Nat.beq q.1 i with
    | true =>
      rw [hq] at h
      have : q.1 = i := Nat.eq_of_beq_eq_true hq
      subst this
      exact List.mem_cons_self
    | false =>
      rw [hq] at h
      exact List.mem_cons_of_mem _ (rv_lkE l h)
/-- a local is set -/
def rv_up (lo : List (Nat × Value)) (i : Nat) (v : Value) : List (Nat × Value) := match lo with
  | [] => [(i, v)]
  | q :: l => match Nat.beq q.1 i with
    | true => (i, v) :: l
    | false => q :: rv_up l i v
def rv_dup (lo : List (Nat × Value)) : Bool := match lo with
  | [] => true
  | q :: l => !(l.any (fun z => Nat.beq z.1 q.1)) && (Nat.beq q.2.category 1 && rv_dup l)
theorem rv_dup_cat : ∀ lo : List (Nat × Value), rv_dup lo = true → ∀ q ∈ lo, q.2.category = 1
  | [], _, q, hq => absurd hq List.not_mem_nil
  | z :: l, h, q, hq => by
    unfold rv_dup at h
    rw [Bool.and_eq_true, Bool.and_eq_true] at h
    rcases List.mem_cons.mp hq with rfl | hq
    · exact Nat.eq_of_beq_eq_true h.2.1
    · exact rv_dup_cat l h.2.2 q hq
def rv_c (cd : ClassFile.Cond) (x y : Int) : Prop := match cd with
  | .eq => x = y
  | .ne => ¬ x = y
  | .lt => x < y
  | .ge => y ≤ x
  | .gt => y < x
  | .le => x ≤ y
def rv_n (cd : ClassFile.Cond) (x y : Int) : Prop := match cd with
  | .eq => ¬ x = y
  | .ne => x = y
  | .lt => y ≤ x
  | .ge => x < y
  | .gt => x ≤ y
  | .le => y < x
theorem rv_cE (cd : ClassFile.Cond) (x y : Int) : (rk_rel (rk_ct cd) x y → rv_c cd x y) ∧ (rk_rel (rk_cn cd) x y → rv_n cd x y) := by
  cases cd <;> exact ⟨fun h => h, fun h => h⟩
/-- one instruction; k: what is wanted behind it; z: what is wanted here, where it isn't a straight one -/
def rv_1 (nL pc : Nat) (ins : Instr) (len : Nat) (sk : List Value) (lo : List (Nat × Value)) (k : Nat → List Value → List (Nat × Value) → Prop) (z : Prop) : Prop := match ins with
  | .iconst n => k (pc + 1) (.int (Int32.ofInt n) :: sk) lo
  | .bipush n => k (pc + 2) (.int (Int8.ofInt n).toInt32 :: sk) lo
  | .sipush n => k (pc + 3) (.int (Int16.ofInt n).toInt32 :: sk) lo
  | .iload i => (match rv_lk lo i with
    | .int x => k (pc + 2) (.int x :: sk) lo
    | _ => z)
  | .iload_n i => (match rv_lk lo i.val with
    | .int x => k (pc + 1) (.int x :: sk) lo
    | _ => z)
  | .aload i => (match rv_lk lo i with
    | .ref x => k (pc + 2) (.ref x :: sk) lo
    | _ => z)
  | .aload_n i => (match rv_lk lo i.val with
    | .ref x => k (pc + 1) (.ref x :: sk) lo
    | _ => z)
  | .istore i => (match sk with
    | .int x :: sk => (match Nat.blt i nL && rv_dup lo with
      | true => k (pc + 2) sk (rv_up lo i (.int x))
      | false => z)
    | _ => z)
  | .istore_n i => (match sk with
    | .int x :: sk => (match Nat.blt i.val nL && rv_dup lo with
      | true => k (pc + 1) sk (rv_up lo i.val (.int x))
      | false => z)
    | _ => z)
  | .iinc i n => (match rv_lk lo i with
    | .int x => (match Nat.blt i nL && rv_dup lo with
      | true => k (pc + 3) sk (rv_up lo i (.int (x + Int32.ofInt n)))
      | false => z)
    | _ => z)
  | .iadd => (match sk with
    | .int y :: .int x :: sk => k (pc + 1) (.int (x + y) :: sk) lo
    | _ => z)
  | .isub => (match sk with
    | .int y :: .int x :: sk => k (pc + 1) (.int (x - y) :: sk) lo
    | _ => z)
  | .imul => (match sk with
    | .int y :: .int x :: sk => k (pc + 1) (.int (x * y) :: sk) lo
    | _ => z)
  | .idiv => (match sk with
    | .int y :: .int x :: sk => ¬ y = 0 ∧ k (pc + 1) (.int (x / y) :: sk) lo
    | _ => z)
  | .irem => (match sk with
    | .int y :: .int x :: sk => ¬ y = 0 ∧ k (pc + 1) (.int (x - x / y * y) :: sk) lo
    | _ => z)
  | .ishl => (match sk with
    | .int y :: .int x :: sk => k (pc + 1) (.int (x <<< (y &&& 31)) :: sk) lo
    | _ => z)
  | .ishr => (match sk with
    | .int y :: .int x :: sk => k (pc + 1) (.int (x >>> (y &&& 31)) :: sk) lo
    | _ => z)
  | .iand => (match sk with
    | .int y :: .int x :: sk => k (pc + 1) (.int (x &&& y) :: sk) lo
    | _ => z)
  | .pop => (match sk with
    | .int _ :: sk => k (pc + 1) sk lo
    | _ => z)
  | .dup => (match sk with
    | .int x :: sk => k (pc + 1) (.int x :: .int x :: sk) lo
    | .ref x :: sk => k (pc + 1) (.ref x :: .ref x :: sk) lo
    | _ => z)
  | .goto o => (match rk_tok pc o with
    | true => k (rk_tgt pc o) sk lo
    | false => z)
  | .if_icmp cd o => (match sk with
    | .int y :: .int x :: sk => (match rk_tok pc o with
      | true => (rv_c cd x.toInt y.toInt → k (rk_tgt pc o) sk lo) ∧ (rv_n cd x.toInt y.toInt → k (pc + 3) sk lo)
      | false => z)
    | _ => z)
  | .ifCond cd o => (match sk with
    | .int x :: sk => (match rk_tok pc o with
      | true => (rv_c cd x.toInt 0 → k (rk_tgt pc o) sk lo) ∧ (rv_n cd x.toInt 0 → k (pc + 3) sk lo)
      | false => z)
    | _ => z)
  | _ => z
/-- the run: n instructions at most -/
def rv_wp (nL : Nat) (T : rv_T) (Gd : Nat → List Value → List (Nat × Value) → Prop) : Nat → Nat → List Value → List (Nat × Value) → Prop
  | 0, pc, sk, lo => Gd pc sk lo
  | n + 1, pc, sk, lo => match rv_g T pc with
    | (p1, ins, len) => match Nat.beq p1 pc && (rk_lenOk ins len && !(Nat.beq pc 99999)) with
      | true => rv_1 nL pc ins len sk lo (rv_wp nL T Gd n) (Gd pc sk lo)
      | false => Gd pc sk lo
section RV
variable {p : Program} {l : Launch} {e : Env} {R : Room} {s : State} {m : MethodId} {args : Array Value} {below : List Frame} {meth : Method} {c : Code} {H : Heap} {locs : List Loc} {cells slots : Nat} {Q : State → Prop} {cc : ByteArray} {nL : Nat}
/-- the machine at a place, with such locals and such a stack -/
def rv_G (p : Program) (l : Launch) (e : Env) (R : Room) (s : State) (m : MethodId) (args : Array Value) (below : List Frame) (meth : Method) (c : Code) (Q : State → Prop) (nL : Nat) (cells slots : Nat) (H : Heap) (locs : List Loc) (pc : Nat) (sk : List Value) (lo : List (Nat × Value)) : Prop :=
  ∀ ls : Array Slot, lv_has ls nL lo → W p l e R s m args below meth c H locs cells slots Q (F0 m pc ls sk)
theorem rv_up_mem {lo : List (Nat × Value)} {i : Nat} {v : Value} : ∀ {q : Nat × Value}, rv_dup lo = true → q ∈ rv_up lo i v → q = (i, v) ∨ (q ∈ lo ∧ q.1 ≠ i) := by
  induction lo with
  | nil =>
    intro q _ h
    exact Or.inl (List.mem_singleton.mp h)
  | cons z l ih =>
    intro q hd h
    unfold rv_dup at hd
    rw [Bool.and_eq_true, Bool.and_eq_true] at hd
    unfold rv_up at h
    cases hz : Nat.beq z.1 i with
    | true =>
      rw [hz] at h
      have hzi : z.1 = i := Nat.eq_of_beq_eq_true hz
      rcases List.mem_cons.mp h with h | h
      · exact Or.inl h
      · refine Or.inr ⟨List.mem_cons_of_mem _ h, fun e => ?_⟩
        have h1 := hd.1
        rw [Bool.not_eq_true', List.any_eq_false] at h1
        exact h1 q h (by rw [hzi, e]; exact Nat.beq_refl i)
    | false =>
      rw [hz] at h
      rcases List.mem_cons.mp h with h | h
      · subst h
        exact Or.inr ⟨List.mem_cons_self, fun e => by rw [e, Nat.beq_refl] at hz; cases hz⟩
      · rcases ih hd.2.2 h with h1 | h1
        · exact Or.inl h1
        · exact Or.inr ⟨List.mem_cons_of_mem _ h1.1, h1.2⟩
/-- locals behind a store: the list in its old order -/
theorem rv_sto {ls : Array Slot} {lo : List (Nat × Value)} {i : Nat} {x : Int32} (hd : rv_dup lo = true) (h : lv_has ls nL ((i, .int x) :: lo.filter (fun q => !(q.1 == i) && !(q.1 + 1 == i && q.2.category == 2)))) : lv_has ls nL (rv_up lo i (.int x)) := by
  refine rk_lvs h (fun q hq => ?_)
  rcases rv_up_mem hd hq with rfl | ⟨h1, h2⟩
  · exact List.mem_cons_self
  · refine List.mem_cons_of_mem _ (List.mem_filter.mpr ⟨h1, ?_⟩)
    rw [Bool.and_eq_true, Bool.not_eq_true', Bool.not_eq_true']
    refine ⟨by simpa using h2, ?_⟩
    rw [rv_dup_cat lo hd q h1]
    simp
theorem rv_loc {ls : Array Slot} {lo : List (Nat × Value)} {i : Nat} {v : Value} (h : lv_has ls nL lo) (hv : rv_lk lo i = v) (hn : v ≠ .null) : ls[i]? = some (.val v) := by
  subst hv
  exact h.2.2 _ (rv_lkE lo hn)
theorem rv_idx {lo : List (Nat × Value)} {i : Nat} {v : Value} (hv : rv_lk lo i = v) (hn : v ≠ .null) : ∃ k : Nat, lo[k]? = some (i, v) := by
  subst hv
  exact List.getElem?_of_mem (rv_lkE lo hn)
set_option maxHeartbeats 1000000 in
theorem rv_run (hx : p.tables.exec = Jvm.exec) (hb : c.code = cc) {T : rv_T} (hT : rv_tok cc T = true) : ∀ (n : Nat) {pc : Nat} {sk : List Value} {lo : List (Nat × Value)}, rv_wp nL T (rv_G p l e R s m args below meth c Q nL cells slots H locs) n pc sk lo → rv_G p l e R s m args below meth c Q nL cells slots H locs pc sk lo
  | 0, _, _, _, h => h
  | n + 1, pc, sk, lo, h => by
    unfold rv_wp at h
    rcases hg : rv_g T pc with ⟨p1, ins, len⟩
    rw [hg] at h
    dsimp only at h
    cases hc : (Nat.beq p1 pc && (rk_lenOk ins len && !(Nat.beq pc 99999))) with
    | false =>
      rw [hc] at h
      exact h
    | true =>
      rw [hc] at h
      rw [Bool.and_eq_true, Bool.and_eq_true, Bool.not_eq_true'] at hc
      obtain ⟨h1, h2, h3⟩ := hc
      have h1 := Nat.eq_of_beq_eq_true h1
      subst h1
      have hdg := rv_tokE hT hg h3
      have ih := @rv_run hx hb T hT n
      have kone : ∀ k, Nat.beq len k = true → len = k := fun k h => Nat.eq_of_beq_eq_true h
      have knn : ∀ x : Int32, Value.int x ≠ .null := fun x h => by cases h
      have knr : ∀ x : Nat, Value.ref x ≠ .null := fun x h => by cases h
      intro ls hl
      cases ins with
      | iconst k =>
        have := kone _ h2; subst this
        exact lv_iconst hx hb hdg rfl (ih h ls hl)
      | bipush k =>
        have := kone _ h2; subst this
        exact lv_bipush hx hb hdg rfl (ih h ls hl)
      | sipush k =>
        have := kone _ h2; subst this
        exact lv_sipush hx hb hdg rfl (ih h ls hl)
      | iload i =>
        have := kone _ h2; subst this
        simp only [rv_1] at h
        generalize hv : rv_lk lo i = v at h
        cases v with
        | int x => exact lv_iload hx hb hdg (rv_loc hl hv (knn x)) (ih h ls hl)
        | _ => exact h ls hl
      | iload_n i =>
        have := kone _ h2; subst this
        simp only [rv_1] at h
        generalize hv : rv_lk lo i.val = v at h
        cases v with
        | int x => exact lv_iload_n hx hb hdg rfl (rv_loc hl hv (knn x)) (ih h ls hl)
        | _ => exact h ls hl
      | aload i =>
        have := kone _ h2; subst this
        simp only [rv_1] at h
        generalize hv : rv_lk lo i = v at h
        cases v with
        | ref x => exact lv_aload hx hb hdg (rv_loc hl hv (knr x)) (ih h ls hl)
        | _ => exact h ls hl
      | aload_n i =>
        have := kone _ h2; subst this
        simp only [rv_1] at h
        generalize hv : rv_lk lo i.val = v at h
        cases v with
        | ref x => exact lv_aload_n hx hb hdg rfl (rv_loc hl hv (knr x)) (ih h ls hl)
        | _ => exact h ls hl
      | istore i =>
        have := kone _ h2; subst this
        rcases sk with _ | ⟨v, sk⟩
        · exact h ls hl
        · cases v with
          | int x =>
            simp only [rv_1] at h
            cases hd : (Nat.blt i nL && rv_dup lo) with
            | false => rw [hd] at h; exact h ls hl
            | true =>
              rw [hd] at h
              rw [Bool.and_eq_true, Nat.blt_eq] at hd
              exact lv_istore hx hb hdg hl hd.1 rfl (fun ls' hl' => ih h ls' (rv_sto hd.2 hl'))
          | _ => exact h ls hl
      | istore_n i =>
        have := kone _ h2; subst this
        rcases sk with _ | ⟨v, sk⟩
        · exact h ls hl
        · cases v with
          | int x =>
            simp only [rv_1] at h
            cases hd : (Nat.blt i.val nL && rv_dup lo) with
            | false => rw [hd] at h; exact h ls hl
            | true =>
              rw [hd] at h
              rw [Bool.and_eq_true, Nat.blt_eq] at hd
              exact lv_istore_n hx hb hdg rfl hl hd.1 rfl (fun ls' hl' => ih h ls' (rv_sto hd.2 hl'))
          | _ => exact h ls hl
      | iinc i k =>
        have := kone _ h2; subst this
        simp only [rv_1] at h
        generalize hv : rv_lk lo i = v at h
        cases v with
        | int x =>
          dsimp only at h
          cases hd : (Nat.blt i nL && rv_dup lo) with
          | false => rw [hd] at h; exact h ls hl
          | true =>
            rw [hd] at h
            rw [Bool.and_eq_true, Nat.blt_eq] at hd
            obtain ⟨z, hz⟩ := rv_idx hv (knn x)
            exact lv_iinc hx hb hdg hl hz rfl hd.1 rfl (fun ls' hl' => ih h ls' (rv_sto hd.2 hl'))
        | _ => exact h ls hl
      | iadd =>
        have := kone _ h2; subst this
        rcases sk with _ | ⟨v, _ | ⟨u, sk⟩⟩
        · exact h ls hl
        · cases v <;> exact h ls hl
        · cases v with
          | int y => cases u with
            | int x => exact rk_arW hx hb hdg rfl (ih h ls hl)
            | _ => exact h ls hl
          | _ => exact h ls hl
      | isub =>
        have := kone _ h2; subst this
        rcases sk with _ | ⟨v, _ | ⟨u, sk⟩⟩
        · exact h ls hl
        · cases v <;> exact h ls hl
        · cases v with
          | int y => cases u with
            | int x => exact rk_arW hx hb hdg rfl (ih h ls hl)
            | _ => exact h ls hl
          | _ => exact h ls hl
      | imul =>
        have := kone _ h2; subst this
        rcases sk with _ | ⟨v, _ | ⟨u, sk⟩⟩
        · exact h ls hl
        · cases v <;> exact h ls hl
        · cases v with
          | int y => cases u with
            | int x => exact rk_arW hx hb hdg rfl (ih h ls hl)
            | _ => exact h ls hl
          | _ => exact h ls hl
      | idiv =>
        have := kone _ h2; subst this
        rcases sk with _ | ⟨v, _ | ⟨u, sk⟩⟩
        · exact h ls hl
        · cases v <;> exact h ls hl
        · cases v with
          | int y => cases u with
            | int x => exact rk_arW hx hb hdg (by simp only [rk_mop]; rw [if_neg h.1]) (ih h.2 ls hl)
            | _ => exact h ls hl
          | _ => exact h ls hl
      | irem =>
        have := kone _ h2; subst this
        rcases sk with _ | ⟨v, _ | ⟨u, sk⟩⟩
        · exact h ls hl
        · cases v <;> exact h ls hl
        · cases v with
          | int y => cases u with
            | int x => exact rk_arW hx hb hdg (by simp only [rk_mop]; rw [if_neg h.1]) (ih h.2 ls hl)
            | _ => exact h ls hl
          | _ => exact h ls hl
      | ishl =>
        have := kone _ h2; subst this
        rcases sk with _ | ⟨v, _ | ⟨u, sk⟩⟩
        · exact h ls hl
        · cases v <;> exact h ls hl
        · cases v with
          | int y => cases u with
            | int x => exact rk_arW hx hb hdg rfl (ih h ls hl)
            | _ => exact h ls hl
          | _ => exact h ls hl
      | ishr =>
        have := kone _ h2; subst this
        rcases sk with _ | ⟨v, _ | ⟨u, sk⟩⟩
        · exact h ls hl
        · cases v <;> exact h ls hl
        · cases v with
          | int y => cases u with
            | int x => exact rk_arW hx hb hdg rfl (ih h ls hl)
            | _ => exact h ls hl
          | _ => exact h ls hl
      | iand =>
        have := kone _ h2; subst this
        rcases sk with _ | ⟨v, _ | ⟨u, sk⟩⟩
        · exact h ls hl
        · cases v <;> exact h ls hl
        · cases v with
          | int y => cases u with
            | int x => exact rk_arW hx hb hdg rfl (ih h ls hl)
            | _ => exact h ls hl
          | _ => exact h ls hl
      | pop =>
        have := kone _ h2; subst this
        rcases sk with _ | ⟨v, sk⟩
        · exact h ls hl
        · cases v with
          | int y => exact lv_pop hx hb hdg rfl (ih h ls hl)
          | _ => exact h ls hl
      | dup =>
        have := kone _ h2; subst this
        rcases sk with _ | ⟨v, sk⟩
        · exact h ls hl
        · cases v with
          | int y => exact lv_dup hx hb hdg rfl (ih h ls hl)
          | ref y => exact lv_dup hx hb hdg rfl (ih h ls hl)
          | _ => exact h ls hl
      | goto o =>
        have := kone _ h2; subst this
        simp only [rv_1] at h
        cases ht : rk_tok p1 o with
        | false => rw [ht] at h; exact h ls hl
        | true => rw [ht] at h; exact lv_goto hx hb hdg (rk_tgt_ok ht) (ih h ls hl)
      | if_icmp cd o =>
        have := kone _ h2; subst this
        rcases sk with _ | ⟨v, _ | ⟨u, sk⟩⟩
        · exact h ls hl
        · cases v <;> exact h ls hl
        · cases v with
          | int y => cases u with
            | int x =>
              simp only [rv_1] at h
              cases ht : rk_tok p1 o with
              | false => rw [ht] at h; exact h ls hl
              | true =>
                rw [ht] at h
                exact rk_icmp hx hb hdg (rk_tgt_ok ht) (fun h9 => ih (h.1 ((rv_cE cd _ _).1 h9)) ls hl) (fun h9 => ih (h.2 ((rv_cE cd _ _).2 h9)) ls hl)
            | _ => exact h ls hl
          | _ => exact h ls hl
      | ifCond cd o =>
        have := kone _ h2; subst this
        rcases sk with _ | ⟨v, sk⟩
        · exact h ls hl
        · cases v with
          | int x =>
            simp only [rv_1] at h
            cases ht : rk_tok p1 o with
            | false => rw [ht] at h; exact h ls hl
            | true =>
              rw [ht] at h
              exact rk_if0 hx hb hdg (rk_tgt_ok ht) (fun h9 => ih (h.1 ((rv_cE cd _ _).1 h9)) ls hl) (fun h9 => ih (h.2 ((rv_cE cd _ _).2 h9)) ls hl)
          | _ => exact h ls hl
      | _ => exact h ls hl
end RV
end
section
/-! contracts that say more than kinds; rules for calls, fields, rows, returns over a typed world -/
abbrev rm_Pr : Type := (Nat → Option Nat) → Int → List Nat → (Nat → va_E) → Prop
abbrev rm_Po : Type := (Nat → Option Nat) → Int → List Nat → (Nat → va_E) → Option Value → (Nat → va_E) → Prop
def rm_Met (base : Nat) (l : Launch) (K : Nat → rk_KD) (E : Nat → Nat → rk_AV) (tys : List (ClassId × FieldType)) (D : va_G) (NU : State → Prop) (M : rk_Mt) (av : List Value) (Pre : rm_Pr) (Po : rm_Po) (C : Int) : Prop :=
  ∀ (G : Nat → Option Nat) (X : Int) (L : List Nat) (f : Nat → va_E) (sz : Nat), 0 ≤ X → X + C ≤ rk_top → rk_TY K E tys G X L f → Pre G X L f → (∀ a ∈ L, base ≤ a) → base ≤ sz →
    Met l M.1 (rk_ws M) { frames := M.2.2.2.2.1, cells := 0, slots := 0, locals := M.2.2.2.2.2 } (va_Pc av (rk_Pre D tys NU L f sz)) (rk_Q (Po G X L f) (rk_B D tys L (va_A (va_pl L f) sz)) (va_A (va_pl L f) sz)) 0 0 (va_A (va_pl L f) sz)
theorem rm_of {base : Nat} {l : Launch} {K : Nat → rk_KD} {E : Nat → Nat → rk_AV} {tys : List (ClassId × FieldType)} {D : va_G} {NU : State → Prop} {Lv : rk_Lvt} {Pw : rk_Pwt} {M : rk_Mt} {avs : List rk_AV} {alts : List rk_Alt} {C : Int} {lv : Nat} (h : rk_Met base l K E tys D NU Lv Pw M avs alts C lv) (av : List Value) : rm_Met base l K E tys D NU M av (fun G X _ f => rk_all G X avs av ∧ Pw G f) (fun G X L f => rk_post K E tys G (X + C) L f av alts Lv lv) C :=
  fun G X L f sz h1 h2 h3 h4 h5 h6 => h G X L f av sz h1 h2 h4.1 h3 h4.2 h5 h6
/-- the cells, without their kinds -/
def rm_h (D : va_G) (A : Nat → Prop) (s : State) (L : List Nat) (f : Nat → va_E) (H : Heap) (locs : List Loc) : Prop := va_P D vwCl (va_pl L f) H ∧ va_D A (va_pl L f) ∧ va_S A s.heap H locs
/-- what a walk of a method rests on -/
def rm_Cx (base : Nat) (tys : List (ClassId × FieldType)) (D : va_G) (NU : State → Prop) (M : rk_Mt) (mt : Nat → rk_Mt) (ml : rk_Ml) (fl : rk_Fl) (p : Program) (R : Room) (s : State) (m : MethodId) (args : Array Value) (meth : Method) (c : Code) (A : Nat → Prop) (L : List Nat) : Prop :=
  p.tables.exec = Jvm.exec ∧ c.code = M.2.1 ∧ c.maxLocals = M.2.2.1 ∧ meth.sig.returnType = M.2.2.2.1 ∧ meth.locks = false ∧ s.vm.findClass M.1.cls = some m.cls ∧ (∀ w ∈ rk_ws M, w.before args s = true) ∧ va_K D vwCl tys s ∧ NU s ∧ (∀ (U : State) (locs : List Loc), va_S A s.heap U.heap locs → s.WarmedH U.vm → NU U) ∧ (∀ u U : State, u.vm = U.vm → u.heap = U.heap → NU u → NU U) ∧ rk_MlOk s args R M.1.cls mt ml ∧ rk_FlOk s args (rk_ws M) M.1.cls fl ∧ (∀ a ∈ L, base ≤ a) ∧ base ≤ s.heap.size ∧ (∀ q, s.heap.size ≤ q → A q)
section RM
variable {base : Nat} {K : Nat → rk_KD} {E : Nat → Nat → rk_AV} {tys : List (ClassId × FieldType)} {D : va_G} {NU : State → Prop} {M : rk_Mt} {mt : Nat → rk_Mt} {ml : rk_Ml} {fl : rk_Fl}
variable {p : Program} {l : Launch} {e : Env} {R : Room} {s : State} {m : MethodId} {args : Array Value} {below : List Frame} {meth : Method} {c : Code} {Q : State → Prop} {cells slots : Nat} {A : Nat → Prop} {G : Nat → Option Nat} {L : List Nat} {X : Int} {f : Nat → va_E} {H : Heap} {locs : List Loc}
theorem rm_callW {H0 H : Heap} {locs : List Loc} {pc cells slots : Nat} {ls : Array Slot} {rest st0 : List Value} {a : Array Value} {A0 A1 : Nat → Prop} {free : Addr → Prop} {post : Option Value → (Nat → va_E) → Prop} {B : (Nat → va_E) → State → Prop} (hr : va_Run p l e R s m args below meth c H locs cells slots 0 0 (F0 m pc ls st0) rest (rk_Q post B A1 a) free) (hS : va_S A0 H0 H locs) (hA : ∀ q, q < H.size → A1 q → A0 q) (hf : ∀ q, free q → A0 q)
    (kk : ∀ (v : Option Value) (u : Nat → va_E) (t : State) (H1 : Heap) (locs1 : List Loc), t.heap = H1 → s.vm.Alike t.vm → post v u → B u t → va_S A0 H0 H1 locs1 → W p l e R s m args below meth c H1 locs1 cells slots Q (F0 m (pc + 3) ls (v.toList ++ rest))) : W p l e R s m args below meth c H locs cells slots Q (F0 m pc ls st0) := by
  intro T hT X
  obtain ⟨v, st₀, t, T', L, h0, X', hL, e1, e2, ⟨⟨v', u, hv, hp, hb⟩, hz, hk⟩, st⟩ := hr T hT X
  cases hv
  rw [h0] at hz hk
  obtain ⟨t2, a1, b1⟩ := kk v u t T'.heap (locs ++ L) e1.symm (by rw [← e2]; exact X'.warmed.alike) hp hb
    ⟨Nat.le_trans hS.1 (by rw [e1]; exact hz), fun q h1 h2 => by rw [e1, hk q (Nat.lt_of_lt_of_le h1 hS.1) (fun z => h2 (hA q (Nat.lt_of_lt_of_le h1 hS.1) z))]; exact hS.2.1 q h1 h2, fun q hq => by
      rcases List.mem_append.mp hq with h | h
      · exact hS.2.2 q h
      · exact hf _ (hL q h)⟩ T' rfl X'
  exact ⟨t2, st t2 a1, b1⟩
/-- a thing of the world, by its place -/
theorem rm_at {b : Nat} (hb : b ∈ L) : ∃ q0 : Nat, (va_pl L f)[q0]? = some (b, f b) := va_pl_get (X := []) (f := f) hb
/-- what a call wants of the rest of the stack -/
def rm_cat (rest : List Value) : Prop := (rest.map fun v => v.category).sum ≤ 8
theorem rm_callV (hC : rm_Cx base tys D NU M mt ml fl p R s m args meth c A L) (hh : rm_h D A s L f H locs) {pc idx z n ci : Nat} (hdg : decode M.2.1 pc = .ok (.invokevirtual idx, 3)) (hidx : ml idx = some (z, n, ci + 1)) {b : Nat} {as fs : List Value} (hbL : b ∈ L) (hfb : f b = .inr (ci, fs)) {Pre : rm_Pr} {Po : rm_Po} {C : Int} (hM : rm_Met base l K E tys D NU (mt z) (.ref b :: as) Pre Po C) (hX : 0 ≤ X) (hXC : X + C ≤ rk_top) (hT : rk_TY K E tys G X L f) (hpre : Pre G X L f) (hn : as.length + 1 = n) {sk rest : List Value} (hsk : sk = as.reverse ++ .ref b :: rest) (hcat : rm_cat rest) (hcs : cells ≤ R.cells ∧ slots ≤ R.slots) {lo : List (Nat × Value)}
    (kk : ∀ (v : Option Value) (u : Nat → va_E) (H1 : Heap) (locs1 : List Loc), Po G X L f v u → rm_h D A s L u H1 locs1 → rv_G p l e R s m args below meth c Q M.2.2.1 cells slots H1 locs1 (pc + 3) (v.toList ++ rest) lo) : rv_G p l e R s m args below meth c Q M.2.2.1 cells slots H locs pc sk lo := by
  intro ls hl
  obtain ⟨hx, hb, hml9, -, -, hown, hts, hK, hNs, hNw, hNc, hml, -, hBL, hB0, hA⟩ := hC
  obtain ⟨hP, hD, hS⟩ := hh
  have hM := hM G X L f H.size hX hXC hT hpre hBL (Nat.le_trans hB0 hS.1)
  obtain ⟨k1, k2, k3, k4, k5, k6, k7⟩ := hml idx z n (ci + 1) hidx
  obtain ⟨i1, i2, ⟨q, hq, hqc⟩, k, hnk, hpar⟩ := k7 ci rfl
  have hF : ∀ q, va_A (va_pl L f) H.size q → A q := by
    intro q hq
    rcases hq with ⟨k, e9, hke⟩ | hq
    · exact hD.2 k (q, e9) hke
    · exact hA q (Nat.le_trans hS.1 hq)
  have htb : ∀ w ∈ rk_tbl, w ∈ rk_ws M := fun w hw => List.mem_cons_of_mem _ hw
  have hG := rk_good (M := mt z) htb k1
  have hbl : FrameBlind (va_Pc (.ref b :: as) (rk_Pre D tys NU L f H.size)) := fun a U g mk q => by
    obtain ⟨q0, q1, q2, q3, q4, q5⟩ := q
    exact ⟨q0, q1, q2, va_K.moved (u := U) (U := U.calling g mk a) (Vm.Alike.refl U.vm) q3, q4, hNc U _ rfl rfl q5⟩
  have hpre9 : ∀ U : State, U.heap = H → s.WarmedH U.vm → rk_Pre D tys NU L f H.size U := fun U hU hW => ⟨by rw [hU], by rw [hU]; exact hP, va_K.moved hW.alike hK, hD.weaken (fun _ _ _ _ => trivial), hNw U locs (by rw [hU]; exact hS) hW⟩
  obtain ⟨q0, hq0⟩ := rm_at (f := f) hbL
  rw [hfb] at hq0
  have hrv := va_recv hK hP hq hq0
  rw [hqc] at hrv
  have hPv : PreV s H (mt z).1.cls b (va_Pc (.ref b :: as) (rk_Pre D tys NU L f H.size)) as := ⟨hbl, hrv, fun U hU hW => ⟨rfl, hpre9 U hU hW⟩⟩
  have hsz : ls.size = M.2.2.1 := hl.1
  have hk9 : as.length = k := by omega
  have hcs0 : cells + 0 ≤ R.cells ∧ slots + 0 ≤ R.slots := hcs
  have fin : ∀ (v : Option Value) (u : Nat → va_E) (t : State) (H1 : Heap) (locs1 : List Loc), t.heap = H1 → s.vm.Alike t.vm → Po G X L f v u → rk_B D tys L (va_A (va_pl L f) H.size) u t → va_S A s.heap H1 locs1 → W p l e R s m args below meth c H1 locs1 cells slots Q (F0 m (pc + 3) ls (v.toList ++ rest)) := by
    intro v u t H1 locs1 ht hvm hp hB hS1
    obtain ⟨hP1, hK1, hD1⟩ := hB
    rw [ht] at hP1
    exact kk v u H1 locs1 hp ⟨hP1, hD1.weaken (fun k q _ h9 => hF q.1 h9), hS1⟩ ls hl
  rcases k4 with hl4 | ⟨host, hl4⟩
  · exact rm_callW (va_runV (As := as) (rest := rest) (b := b) (C := (mt z).1.cls) ⟨hx, hb, hml9, hown, hts⟩ hM ⟨callB_of k hts hG rfl rfl rfl k2 hl4 ⟨k3.1, k3.2, hpar⟩ k5, i1, i2⟩ hPv rfl hk9 hsz hsk (lv_room hcat) hdg hcs0) hS (fun q _ h9 => hF q h9) hF fin
  · exact rm_callW (va_runVN (As := as) (rest := rest) (b := b) (C := (mt z).1.cls) ⟨hx, hb, hml9, hown, hts⟩ hM ⟨va_cnB k hts hG rfl rfl rfl hl4 k2 ⟨k3.1, k3.2, hpar⟩ k5, i1, i2⟩ hPv rfl hk9 hsz hsk (lv_room hcat) hdg hcs0) hS (fun q _ h9 => hF q h9) hF fin
theorem rm_get (hC : rm_Cx base tys D NU M mt ml fl p R s m args meth c A L) (hh : rm_h D A s L f H locs) {pc idx ci i w : Nat} (hdg : decode M.2.1 pc = .ok (.getfield idx, 3)) (hidx : fl idx = some (ci, i, w)) {b : Nat} {fs : List Value} (hbL : b ∈ L) (hfb : f b = .inr (ci, fs)) {v : Value} (hv : fs[i]? = some v) {rest : List Value} {lo : List (Nat × Value)}
    (kk : rv_G p l e R s m args below meth c Q M.2.2.1 cells slots H locs (pc + 3) (v :: rest) lo) : rv_G p l e R s m args below meth c Q M.2.2.1 cells slots H locs pc (.ref b :: rest) lo := by
  intro ls hl
  obtain ⟨hx, hb, hml9, -, -, hown, hts, hK, hNs, hNw, hNc, -, hfl, hBL, hB0, hA⟩ := hC
  obtain ⟨hP, hD, hS⟩ := hh
  obtain ⟨C, T, N, ty0, hC, hkN, hin, hty0, hnm, hlink, -⟩ := hfl _ _ _ _ hidx
  obtain ⟨q0, hq0⟩ := rm_at (f := f) hbL
  rw [hfb] at hq0
  rcases hlink with hl4 | ⟨host, hl4⟩
  · exact va_get hx hb hts hin hown hK hP q0 hq0 hC i hkN hl4 (fun _ h9 => h9) hv hdg (kk ls hl)
  · exact va_getN hx hb hts hin hown hK hP q0 hq0 hC i hkN hl4 (fun _ h9 => h9) hv hdg (kk ls hl)
theorem rm_iald (hC : rm_Cx base tys D NU M mt ml fl p R s m args meth c A L) (hh : rm_h D A s L f H locs) {pc : Nat} (hdg : decode M.2.1 pc = .ok (.iaload, 1)) {b n : Nat} {cA : ClassId} {g : Nat → Int32} (hbL : b ∈ L) (hfb : f b = .inl (cA, n, .inl g)) (hcA : tys[0]? = some (cA, .int)) {i : Int32} (h0 : 0 ≤ i.toInt) (h1 : i.toInt < (n : Int)) {rest : List Value} {lo : List (Nat × Value)}
    (kk : rv_G p l e R s m args below meth c Q M.2.2.1 cells slots H locs (pc + 1) (.int (g i.toNatClampNeg) :: rest) lo) : rv_G p l e R s m args below meth c Q M.2.2.1 cells slots H locs pc (.int i :: .ref b :: rest) lo := by
  intro ls hl
  obtain ⟨hx, hb, hml9, -, -, hown, hts, hK, hNs, hNw, hNc, -, hfl, hBL, hB0, hA⟩ := hC
  obtain ⟨hP, hD, hS⟩ := hh
  obtain ⟨q0, hq0⟩ := rm_at (f := f) hbL
  rw [hfb] at hq0
  exact va_iald hx hb hK hP q0 0 hq0 hcA (vp_in_iff.mpr ⟨h0, h1⟩) hdg (kk ls hl)
theorem rm_iast (hC : rm_Cx base tys D NU M mt ml fl p R s m args meth c A L) (hh : rm_h D A s L f H locs) {pc : Nat} (hdg : decode M.2.1 pc = .ok (.iastore, 1)) {b n : Nat} {cA : ClassId} {g : Nat → Int32} (hbL : b ∈ L) (hfb : f b = .inl (cA, n, .inl g)) (hcA : tys[0]? = some (cA, .int)) {i x : Int32} (h0 : 0 ≤ i.toInt) (h1 : i.toInt < (n : Int)) {rest : List Value} {lo : List (Nat × Value)}
    (kk : ∀ (H1 : Heap) (locs1 : List Loc), rm_h D A s L (va_up f b (.inl (cA, n, .inl (upd g i.toNatClampNeg x)))) H1 locs1 → rv_G p l e R s m args below meth c Q M.2.2.1 cells slots H1 locs1 (pc + 1) rest lo) : rv_G p l e R s m args below meth c Q M.2.2.1 cells slots H locs pc (.int x :: .int i :: .ref b :: rest) lo := by
  intro ls hl
  obtain ⟨hx, hb, hml9, -, -, hown, hts, hK, hNs, hNw, hNc, -, hfl, hBL, hB0, hA⟩ := hC
  obtain ⟨hP, hD, hS⟩ := hh
  obtain ⟨q0, hq0⟩ := rm_at (f := f) hbL
  have hq1 := hq0
  rw [hfb] at hq1
  refine va_iast hx hb hK hP hD hS q0 0 hq1 hcA (vp_in_iff.mpr ⟨h0, h1⟩) hdg (fun H1 locs1 hP1 hD1 hS1 => ?_)
  have e1 := va_pl_set (X := []) (e := .inl (cA, n, .inl (upd g i.toNatClampNeg x))) hD hbL hq0
  have e2 : (va_pl L f).set q0 (b, .inl (cA, n, .inl (upd g i.toNatClampNeg x))) = va_pl L (va_up f b (.inl (cA, n, .inl (upd g i.toNatClampNeg x)))) := e1
  rw [e2] at hP1 hD1
  exact kk H1 locs1 ⟨hP1, hD1, hS1⟩ ls hl
/-- the ends of a method -/
theorem rm_vret (hC : rm_Cx base tys D NU M mt ml fl p R s m args meth c A L) (hh : rm_h D A s L f H locs) {pc : Nat} (hdg : decode M.2.1 pc = .ok (.return_, 1)) (hM : M.2.2.2.1 = none) {Pq : Option Value → (Nat → va_E) → Prop} (hq : Pq none f) {lo : List (Nat × Value)} : rv_G p l e R s m args below meth c (MQ below (rk_Q Pq (rk_B D tys L A) A) args s cells slots A) M.2.2.1 cells slots H locs pc [] lo := by
  intro ls hl
  obtain ⟨hx, hb, hml9, hr, hlk, hown, hts, hK, hNs, hNw, hNc, -, hfl, hBL, hB0, hA⟩ := hC
  obtain ⟨hP, hD, hS⟩ := hh
  exact W.vret hx hb (by rw [hr, hM]) (fun t ht hW => ⟨⟨none, f, rfl, hq, ⟨by rw [ht]; exact hP, va_K.moved hW.alike hK, hD⟩⟩, hS.F ht⟩) hS.2.2 hdg hlk
theorem rm_iret (hC : rm_Cx base tys D NU M mt ml fl p R s m args meth c A L) (hh : rm_h D A s L f H locs) {pc : Nat} (hdg : decode M.2.1 pc = .ok (.ireturn, 1)) (hM : M.2.2.2.1 = some .int) {x : Int32} {Pq : Option Value → (Nat → va_E) → Prop} (hq : Pq (some (.int x)) f) {lo : List (Nat × Value)} : rv_G p l e R s m args below meth c (MQ below (rk_Q Pq (rk_B D tys L A) A) args s cells slots A) M.2.2.1 cells slots H locs pc [.int x] lo := by
  intro ls hl
  obtain ⟨hx, hb, hml9, hr, hlk, hown, hts, hK, hNs, hNw, hNc, -, hfl, hBL, hB0, hA⟩ := hC
  obtain ⟨hP, hD, hS⟩ := hh
  exact W.iret hx hb (by rw [hr, hM]) (fun t ht hW => ⟨⟨some (.int x), f, rfl, hq, ⟨by rw [ht]; exact hP, va_K.moved hW.alike hK, hD⟩⟩, hS.F ht⟩) hS.2.2 hdg hlk
theorem rm_zret (hC : rm_Cx base tys D NU M mt ml fl p R s m args meth c A L) (hh : rm_h D A s L f H locs) {pc : Nat} (hdg : decode M.2.1 pc = .ok (.ireturn, 1)) (hM : M.2.2.2.1 = some .boolean) {x : Int32} (hx01 : x = 0 ∨ x = 1) {Pq : Option Value → (Nat → va_E) → Prop} (hq : Pq (some (.int x)) f) {lo : List (Nat × Value)} : rv_G p l e R s m args below meth c (MQ below (rk_Q Pq (rk_B D tys L A) A) args s cells slots A) M.2.2.1 cells slots H locs pc [.int x] lo := by
  intro ls hl
  obtain ⟨hx, hb, hml9, hr, hlk, hown, hts, hK, hNs, hNw, hNc, -, hfl, hBL, hB0, hA⟩ := hC
  obtain ⟨hP, hD, hS⟩ := hh
  refine W.zret (ty := .boolean) hx hb (by rw [hr, hM]) ?_ (fun t ht hW => ⟨⟨some (.int x), f, rfl, hq, ⟨by rw [ht]; exact hP, va_K.moved hW.alike hK, hD⟩⟩, hS.F ht⟩) hS.2.2 hdg hlk
  rcases hx01 with rfl | rfl <;> rfl
end RM
/-- a contract out of a walk from its first place -/
theorem rm_start {base : Nat} {l : Launch} {K : Nat → rk_KD} {E : Nat → Nat → rk_AV} {tys : List (ClassId × FieldType)} {D : va_G} {NU : State → Prop} (hNw : ∀ (s U : State) (A : Nat → Prop) (locs : List Loc), (∀ q, A q → base ≤ q) → va_S A s.heap U.heap locs → s.WarmedH U.vm → NU s → NU U) (hNc : ∀ u U : State, u.vm = U.vm → u.heap = U.heap → NU u → NU U) {M : rk_Mt} (hplain : plainName M.1.cls = true) {mt : Nat → rk_Mt} {ml : rk_Ml} {fl : rk_Fl}
    (hml : ∀ (s : State) (args : Array Value), (∀ w ∈ rk_ws M, w.before args s = true) → NU s → rk_MlOk s args { frames := M.2.2.2.2.1, cells := 0, slots := 0, locals := M.2.2.2.2.2 } M.1.cls mt ml) (hfl : ∀ (s : State) (args : Array Value), (∀ w ∈ rk_ws M, w.before args s = true) → NU s → rk_FlOk s args (rk_ws M) M.1.cls fl)
    {av : List Value} (hcat : ∀ v ∈ av, v.category = 1) (hlen : av.length ≤ M.2.2.1) {Pre : rm_Pr} {Po : rm_Po} {C : Int}
    (h : ∀ (p : Program) (e : Env) (s : State) (m : MethodId) (below : List Frame) (meth : Method) (c : Code) (G : Nat → Option Nat) (X : Int) (L : List Nat) (f : Nat → va_E) (A : Nat → Prop), rm_Cx base tys D NU M mt ml fl p { frames := M.2.2.2.2.1, cells := 0, slots := 0, locals := M.2.2.2.2.2 } s m av.toArray meth c A L → rm_h D A s L f s.heap [] → 0 ≤ X → X + C ≤ rk_top → rk_TY K E tys G X L f → Pre G X L f → rv_G p l e { frames := M.2.2.2.2.1, cells := 0, slots := 0, locals := M.2.2.2.2.2 } s m av.toArray below meth c (MQ below (rk_Q (Po G X L f) (rk_B D tys L A) A) av.toArray s 0 0 A) M.2.2.1 0 0 s.heap [] 0 [] (lv_args 0 av)) : rm_Met base l K E tys D NU M av Pre Po C := by
  intro G X L f sz hX hXC hTY hpre hBL hBs
  refine Met.ofW (cc := M.2.1) (maxL := M.2.2.1) (ret := M.2.2.2.1) hplain rfl ?_
  intro p e s m args below meth c s₁ B hml0 hv
  obtain ⟨rfl, hsz, hP, hK, hD0, hN⟩ := hv
  have hx := B.exec
  have hb := B.bytes
  have hr := B.returns
  have hts := atoms_spec (ws := rk_ws M) B.pre
  have hown : s.vm.findClass M.1.cls = some m.cls := findClass_of_methodNamed B.named
  have hlocks := B.notSynchronized
  subst hsz
  have hD := hD0.self (sz := s.heap.size)
  generalize hAe : va_A (va_pl L f) s.heap.size = A at hD ⊢
  have hAb : ∀ q, A q → base ≤ q := fun q h => by
    rw [← hAe] at h
    rcases h with ⟨k, e9, hk9⟩ | h
    · obtain ⟨a, ha, ea⟩ := List.mem_map.mp (List.mem_of_getElem? hk9)
      cases ea
      exact hBL _ ha
    · exact Nat.le_trans hBs h
  have hA : ∀ q : Nat, s.heap.size ≤ q → A q := fun q h => by rw [← hAe]; exact Or.inr h
  have hS : va_S A s.heap s.heap [] := va_S.rf
  have hlen2 : (lg_sl av).length ≤ M.2.2.1 := by
    rw [rk_sl_len av hcat]
    exact hlen
  have hl := lv_entry av (n := M.2.2.1) hlen2
  rw [lg_entry_eq]
  exact h p e s m below meth c G X L f A ⟨hx, hb, hml0, hr, hlocks, hown, hts, hK, hN, fun U locs hS9 hW => hNw s U A locs hAb hS9 hW hN, hNc, hml s _ hts hN, hfl s _ hts hN, hBL, hBs, hA⟩ ⟨hP, hD, hS⟩ hX hXC hTY hpre _ hl
end
section
/-! levels: what may have changed -/
/-- a field of all things of a kind stays -/
def rk_fldE (k i : Nat) (G : Nat → Option Nat) (f u : Nat → va_E) : Prop := ∀ a, G a = some k → rk_fld (f a) i = rk_fld (u a) i
def rk_inr (i : Nat) (x y : Int) : Bool := decide (x ≤ (i : Int)) && decide ((i : Int) ≤ y)
def rk_okf (k i k' : Nat) (x y : Int) : Bool := !(Nat.beq k' k && rk_inr i x y)
theorem rk_dif_fld {x y : Int} {e0 e : va_E} {i : Nat} (h : rk_dif x y e0 e) (hi : rk_inr i x y = false) : rk_fld e i = rk_fld e0 i := by
  have hi : ¬ (x ≤ (i : Int) ∧ (i : Int) ≤ y) := by
    intro h9
    have : rk_inr i x y = true := by
      unfold rk_inr
      rw [Bool.and_eq_true, decide_eq_true_eq, decide_eq_true_eq]
      exact h9
    rw [hi] at this
    cases this
  rcases h with ⟨ci, fs, j, v, h1, h2, h3, h4⟩ | ⟨cA, n, g, g', h1, h2, h3⟩ | ⟨cA, n, g, g', h1, h2, h3⟩
  · rw [h1, h2]
    show (fs.set j v)[i]? = fs[i]?
    exact List.getElem?_set_ne (fun h => hi ⟨by omega, by omega⟩)
  · rw [h1, h2]
    rfl
  · rw [h1, h2]
    rfl
theorem rk_fldE_up {k i k' a : Nat} {x y : Int} {G : Nat → Option Nat} {f0 f : Nat → va_E} {e : va_E} (hok : rk_okf k i k' x y = true) (ha : G a = some k') (hd : rk_dif x y (f a) e) (h : rk_fldE k i G f0 f) : rk_fldE k i G f0 (va_up f a e) := by
  intro b hb
  by_cases hba : b = a
  · subst hba
    rw [va_up_self, h b hb]
    rw [hb] at ha
    cases ha
    unfold rk_okf at hok
    rw [Nat.beq_refl] at hok
    exact (rk_dif_fld hd (by simpa using hok)).symm
  · rw [va_up_ne _ _ hba]
    exact h b hb
/-- the row of kind k that field i of the thing at a0 points to -/
def rm_rw (G : Nat → Option Nat) (f : Nat → va_E) (a0 i k : Nat) : Nat → Int32 := match rk_fld (f a0) i with
  | some (.ref a) => if G a = some k then (match f a with
    | .inl (_, _, .inl g) => g
    | _ => fun _ => 0) else fun _ => 0
  | _ => fun _ => 0
def rm_rwE (i k : Nat) (P : Nat → Bool) (G : Nat → Option Nat) (f u : Nat → va_E) : Prop := ∀ a0, G a0 = some 12 → ∀ j, P j = true → rm_rw G f a0 i k j = rm_rw G u a0 i k j
def rm_no1 (P : Nat → Bool) : Nat → Nat → Bool
  | 0, _ => true
  | n + 1, j => !(P j) && rm_no1 P n (j + 1)
theorem rm_no1_ok {P : Nat → Bool} : ∀ (n j : Nat), rm_no1 P n j = true → ∀ i, j ≤ i → i < j + n → P i = false
  | 0, j, _, i, h1, h2 => by omega
  | n + 1, j, h, i, h1, h2 => by
    unfold rm_no1 at h
    rw [Bool.and_eq_true] at h
    by_cases hij : i = j
    · subst hij
      simpa using h.1
    · exact rm_no1_ok n (j + 1) h.2 i (by omega) (by omega)
def rm_no (P : Nat → Bool) (x y : Int) : Bool := decide (0 ≤ x) && rm_no1 P (y - x + 1).toNat x.toNat
theorem rm_no_ok {P : Nat → Bool} {x y : Int} (h : rm_no P x y = true) (j : Nat) (h1 : x ≤ (j : Int)) (h2 : (j : Int) ≤ y) : P j = false := by
  unfold rm_no at h
  rw [Bool.and_eq_true, decide_eq_true_eq] at h
  exact rm_no1_ok _ _ h.2 j (by omega) (by omega)
def rm_okr (i k : Nat) (P : Nat → Bool) (k' : Nat) (x y : Int) : Bool := !(Nat.beq k' 12 && rk_inr i x y) && (!(Nat.beq k' k) || rm_no P x y)
theorem rm_rwE_up {i k k' a : Nat} {P : Nat → Bool} {x y : Int} {G : Nat → Option Nat} {f0 f : Nat → va_E} {e : va_E} (hk : k ≠ 12) (hok : rm_okr i k P k' x y = true) (ha : G a = some k') (hd : rk_dif x y (f a) e) (h : rm_rwE i k P G f0 f) : rm_rwE i k P G f0 (va_up f a e) := by
  unfold rm_okr at hok
  rw [Bool.and_eq_true] at hok
  obtain ⟨hok1, hok2⟩ := hok
  intro a0 ha0 j hj
  rw [h a0 ha0 j hj]
  have hfld : rk_fld (va_up f a e a0) i = rk_fld (f a0) i := by
    by_cases hb : a0 = a
    · subst hb
      rw [va_up_self]
      rw [ha0] at ha
      cases ha
      refine rk_dif_fld hd ?_
      simpa using hok1
    · rw [va_up_ne _ _ hb]
  unfold rm_rw
  rw [hfld]
  generalize rk_fld (f a0) i = o
  cases o with
  | none => rfl
  | some v => cases v with
    | ref b =>
      dsimp only
      by_cases hGb : G b = some k
      · rw [if_pos hGb, if_pos hGb]
        by_cases hba : b = a
        · subst hba
          rw [hGb] at ha
          cases ha
          rw [Nat.beq_refl] at hok2
          have hno : rm_no P x y = true := by simpa using hok2
          rw [va_up_self]
          rcases hd with ⟨ci, fs, i', v, h1, h2, h3, h4⟩ | ⟨cA, n, g, g', h1, h2, h3⟩ | ⟨cA, n, g, g', h1, h2, h3⟩
          · rw [h1, h2]
          · rw [h1, h2]
            dsimp only
            refine (h3 j ?_).symm
            by_cases hjx : (j : Int) < x
            · exact Or.inl hjx
            · by_cases hjy : y < (j : Int)
              · exact Or.inr hjy
              · have := rm_no_ok hno j (by omega) (by omega)
                rw [hj] at this
                cases this
          · rw [h1, h2]
        · rw [va_up_ne _ _ hba]
      · rw [if_neg hGb, if_neg hGb]
    | _ => rfl
theorem rm_rwE_rf {i k : Nat} {P : Nat → Bool} {G : Nat → Option Nat} {f : Nat → va_E} : rm_rwE i k P G f f := fun _ _ _ _ => rfl
theorem rm_rwE_tr {i k : Nat} {P : Nat → Bool} {G : Nat → Option Nat} {f u w : Nat → va_E} (h1 : rm_rwE i k P G f u) (h2 : rm_rwE i k P G u w) : rm_rwE i k P G f w := fun a0 ha j hj => (h1 a0 ha j hj).trans (h2 a0 ha j hj)
/-! the model's cells that stand in relation to each other -/
def rm_RCw (w : Nat) : Bool := Nat.beq w 0 || (Nat.beq w 3 || (Nat.beq w 6 || (Nat.beq w 13 || Nat.beq w 20)))
def rm_RC (j : Nat) : Bool := if Nat.blt j 2560 then rm_RCw (j % 64) else if Nat.blt j 2860 then false else if Nat.blt j 6276 then Nat.beq ((j - 2860) % 427) 8 else false
def rm_HO (j : Nat) : Bool := if Nat.blt j 2860 then false else if Nat.blt j 6276 then Nat.beq ((j - 2860) % 427) 0 else false
def rm_TI (j : Nat) : Bool := Nat.beq j 6457
def rm_yes (_ : Nat) : Bool := true
/-- cell w of socket s -/
def rm_sc (g : Nat → Int32) (s w : Nat) : Int := (g (64 * s + w)).toInt
def rm_R1 (B S C : Int) : Prop := (S = 0 ∧ B + C ≤ 25) ∨ (1 ≤ S ∧ B + S ≤ 24)
def rm_R2 (T O : Int) : Prop := 1 ≤ T → 1 ≤ O
def rm_iS (g : Nat → Int32) (s : Nat) : Prop := rm_R1 (rm_sc g s 20) (rm_sc g s 6) (rm_sc g s 13) ∧ rm_R2 (rm_sc g s 3) (rm_sc g s 0)
def rm_inv (g : Nat → Int32) : Prop := ∀ s, s < 40 → rm_iS g s
def rm_now (G : Nat → Option Nat) (f : Nat → va_E) (a0 : Nat) : Nat → Int32 := rm_rw G f a0 1 24
def rm_asd (G : Nat → Option Nat) (f : Nat → va_E) (a0 : Nat) : Nat → Int32 := rm_rw G f a0 2 30
def rm_img (G : Nat → Option Nat) (f : Nat → va_E) (a0 : Nat) : Nat → Int32 := rm_rw G f a0 12 31
def rm_INV (G : Nat → Option Nat) (f : Nat → va_E) (a0 : Nat) : Prop := rm_inv (rm_now G f a0) ∧ rm_inv (rm_asd G f a0) ∧ rm_inv (rm_img G f a0)
def rm_phi (g : Nat → Int32) (s : Nat) : Int := rm_sc g s 20 + rm_sc g s 13
def rm_RCE (G : Nat → Option Nat) (f u : Nat → va_E) : Prop := rm_rwE 1 24 rm_RC G f u
def rm_AIE (G : Nat → Option Nat) (f u : Nat → va_E) : Prop := rm_rwE 2 30 rm_yes G f u ∧ rm_rwE 12 31 rm_yes G f u
theorem rm_RC_sc {s w : Nat} (hs : s < 40) (hw : rm_RCw w = true) : rm_RC (64 * s + w) = true := by
  have hw64 : w < 64 := by
    unfold rm_RCw at hw
    simp only [Bool.or_eq_true, Nat.beq_eq] at hw
    omega
  unfold rm_RC
  have e : (64 * s + w) % 64 = w := by omega
  rw [if_pos (by rw [Nat.blt_eq]; omega), e]
  exact hw
theorem rm_RC_q {e : Nat} (he : e < 8) : rm_RC (2860 + 427 * e + 8) = true := by
  unfold rm_RC
  have e1 : (2860 + 427 * e + 8 - 2860) % 427 = 8 := by omega
  rw [if_neg (by rw [Nat.blt_eq]; omega), if_neg (by rw [Nat.blt_eq]; omega), if_pos (by rw [Nat.blt_eq]; omega), e1]
  rfl
theorem rm_RCE_sc {G : Nat → Option Nat} {f u : Nat → va_E} (h : rm_RCE G f u) {a0 : Nat} (ha : G a0 = some 12) {s w : Nat} (hs : s < 40) (hw : rm_RCw w = true) : rm_sc (rm_now G u a0) s w = rm_sc (rm_now G f a0) s w := by
  unfold rm_sc rm_now
  rw [h a0 ha _ (rm_RC_sc hs hw)]
theorem rm_iS_eq {g g' : Nat → Int32} {s : Nat} (h : ∀ w, rm_RCw w = true → rm_sc g' s w = rm_sc g s w) (hi : rm_iS g s) : rm_iS g' s := by
  unfold rm_iS at hi ⊢
  rw [h 20 rfl, h 6 rfl, h 13 rfl, h 3 rfl, h 0 rfl]
  exact hi
theorem rm_INV_eq {G : Nat → Option Nat} {f u : Nat → va_E} (h1 : rm_RCE G f u) (h2 : rm_AIE G f u) {a0 : Nat} (ha : G a0 = some 12) (hi : rm_INV G f a0) : rm_INV G u a0 := by
  obtain ⟨i1, i2, i3⟩ := hi
  refine ⟨fun s hs => rm_iS_eq (fun w hw => rm_RCE_sc h1 ha hs hw) (i1 s hs), fun s hs => rm_iS_eq (fun w hw => ?_) (i2 s hs), fun s hs => rm_iS_eq (fun w hw => ?_) (i3 s hs)⟩
  · unfold rm_sc rm_asd
    rw [h2.1 a0 ha _ rfl]
  · unfold rm_sc rm_img
    rw [h2.2 a0 ha _ rfl]
/-- a field that is a number -/
def rm_fi (f : Nat → va_E) (a i : Nat) : Int := match rk_fld (f a) i with
  | some (.int x) => x.toInt
  | _ => 0
theorem rm_fi_eq {f u : Nat → va_E} {a i : Nat} (h : rk_fld (f a) i = rk_fld (u a) i) : rm_fi u a i = rm_fi f a i := by
  unfold rm_fi
  rw [h]
/-- there is one model -/
def rm_one (G : Nat → Option Nat) : Prop := ∀ a b, G a = some 12 → G b = some 12 → a = b
/-- the model's relations, by their bits -/
def rm_Rb (b : Nat) (G : Nat → Option Nat) (f u : Nat → va_E) : Prop := match b with
  | 0 => u = f
  | 1 => rm_RCE G f u
  | 2 => rm_one G → ∀ a0, G a0 = some 12 → rm_INV G f a0 → rm_INV G u a0 ∧ ∀ s, s < 40 → rm_phi (rm_now G u a0) s ≤ rm_phi (rm_now G f a0) s
  | 3 => rm_one G → ∀ a0, G a0 = some 12 → rm_INV G f a0 → rm_INV G u a0
  | 4 => rk_fldE 12 4 G f u
  | 5 => rm_rwE 1 24 rm_HO G f u
  | 6 => rm_rwE 1 24 rm_TI G f u
  | 7 => rk_fldE 12 11 G f u
  | 8 => rm_AIE G f u
  | 9 => ∀ a0, G a0 = some 12 → rm_fi u a0 8 = rm_fi f a0 8 ∧ rm_fi f a0 7 ≤ rm_fi u a0 7
  | 10 => ∀ a0, G a0 = some 12 → rm_fi f a0 9 ≤ rm_fi u a0 9
  | _ => True
def rm_okb (b k : Nat) (x y : Int) : Bool := match b with
  | 0 => false
  | 1 => rm_okr 1 24 rm_RC k x y
  | 2 => rm_okr 1 24 rm_RC k x y && (rm_okr 2 30 rm_yes k x y && rm_okr 12 31 rm_yes k x y)
  | 3 => rm_okr 1 24 rm_RC k x y && (rm_okr 2 30 rm_yes k x y && rm_okr 12 31 rm_yes k x y)
  | 4 => rk_okf 12 4 k x y
  | 5 => rm_okr 1 24 rm_HO k x y
  | 6 => rm_okr 1 24 rm_TI k x y
  | 7 => rk_okf 12 11 k x y
  | 8 => rm_okr 2 30 rm_yes k x y && rm_okr 12 31 rm_yes k x y
  | 9 => rk_okf 12 7 k x y && rk_okf 12 8 k x y
  | 10 => rk_okf 12 9 k x y
  | _ => true
theorem rm_Rb_rf (b : Nat) (G : Nat → Option Nat) (f : Nat → va_E) : rm_Rb b G f f := by
  rcases b with _ | _ | _ | _ | _ | _ | _ | _ | _ | _ | _ | b
  · rfl
  · exact rm_rwE_rf
  · exact fun _ a0 _ h => ⟨h, fun s _ => Int.le_refl _⟩
  · exact fun _ a0 _ h => h
  · exact fun _ _ => rfl
  · exact rm_rwE_rf
  · exact rm_rwE_rf
  · exact fun _ _ => rfl
  · exact ⟨rm_rwE_rf, rm_rwE_rf⟩
  · exact fun _ _ => ⟨rfl, Int.le_refl _⟩
  · exact fun _ _ => Int.le_refl _
  · trivial
theorem rm_Rb_tr (b : Nat) {G : Nat → Option Nat} {f u w : Nat → va_E} (h1 : rm_Rb b G f u) (h2 : rm_Rb b G u w) : rm_Rb b G f w := by
  rcases b with _ | _ | _ | _ | _ | _ | _ | _ | _ | _ | _ | b
  · exact Eq.trans h2 h1
  · exact rm_rwE_tr h1 h2
  · intro h9 a0 ha h
    obtain ⟨i1, j1⟩ := h1 h9 a0 ha h
    obtain ⟨i2, j2⟩ := h2 h9 a0 ha i1
    exact ⟨i2, fun s hs => Int.le_trans (j2 s hs) (j1 s hs)⟩
  · exact fun h9 a0 ha h => h2 h9 a0 ha (h1 h9 a0 ha h)
  · exact fun a ha => (h1 a ha).trans (h2 a ha)
  · exact rm_rwE_tr h1 h2
  · exact rm_rwE_tr h1 h2
  · exact fun a ha => (h1 a ha).trans (h2 a ha)
  · exact ⟨rm_rwE_tr h1.1 h2.1, rm_rwE_tr h1.2 h2.2⟩
  · exact fun a ha => ⟨(h2 a ha).1.trans (h1 a ha).1, Int.le_trans (h1 a ha).2 (h2 a ha).2⟩
  · exact fun a ha => Int.le_trans (h1 a ha) (h2 a ha)
  · trivial
theorem rm_Rb_up (b : Nat) {G : Nat → Option Nat} {f : Nat → va_E} {a k : Nat} {e : va_E} {x y : Int} (hok : rm_okb b k x y = true) (ha : G a = some k) (hd : rk_dif x y (f a) e) : rm_Rb b G f (va_up f a e) := by
  have h1 : rm_okr 1 24 rm_RC k x y = true → rm_RCE G f (va_up f a e) := fun h => rm_rwE_up (by decide) h ha hd rm_rwE_rf
  have h2 : (rm_okr 2 30 rm_yes k x y && rm_okr 12 31 rm_yes k x y) = true → rm_AIE G f (va_up f a e) := fun h => by
    rw [Bool.and_eq_true] at h
    exact ⟨rm_rwE_up (by decide) h.1 ha hd rm_rwE_rf, rm_rwE_up (by decide) h.2 ha hd rm_rwE_rf⟩
  rcases b with _ | _ | _ | _ | _ | _ | _ | _ | _ | _ | _ | b
  · cases hok
  · exact h1 hok
  · have hok := (Bool.and_eq_true _ _).mp hok
    intro _ a0 ha0 hi
    refine ⟨rm_INV_eq (h1 hok.1) (h2 hok.2) ha0 hi, fun s hs => ?_⟩
    unfold rm_phi
    rw [rm_RCE_sc (h1 hok.1) ha0 hs rfl, rm_RCE_sc (h1 hok.1) ha0 hs rfl]
    exact Int.le_refl _
  · have hok := (Bool.and_eq_true _ _).mp hok
    exact fun _ a0 ha0 hi => rm_INV_eq (h1 hok.1) (h2 hok.2) ha0 hi
  · exact rk_fldE_up hok ha hd (fun _ _ => rfl)
  · exact rm_rwE_up (by decide) hok ha hd rm_rwE_rf
  · exact rm_rwE_up (by decide) hok ha hd rm_rwE_rf
  · exact rk_fldE_up hok ha hd (fun _ _ => rfl)
  · exact h2 hok
  · have hok := (Bool.and_eq_true _ _).mp hok
    intro a0 ha0
    have e1 := rm_fi_eq (rk_fldE_up hok.1 ha hd (fun _ _ => rfl) a0 ha0)
    have e2 := rm_fi_eq (rk_fldE_up hok.2 ha hd (fun _ _ => rfl) a0 ha0)
    exact ⟨e2, by omega⟩
  · intro a0 ha0
    have e1 := rm_fi_eq (rk_fldE_up (k := 12) (i := 9) hok ha hd (fun _ _ => rfl) a0 ha0)
    omega
  · trivial
/-! a level out of bits -/
def rk_Lb (nb : Nat) (Rb : Nat → (Nat → Option Nat) → (Nat → va_E) → (Nat → va_E) → Prop) : rk_Lvt := fun G n f u => ∀ b, b < nb → Nat.testBit n b = false → Rb b G f u
def rk_wb9 (nb : Nat) (ok : Nat → Nat → Int → Int → Bool) (n : Nat) : rk_Wr := fun k x y => (List.range nb).all (fun b => Nat.testBit n b || ok b k x y)
theorem rk_Lb_ok {nb : Nat} (h0 : 0 < nb) {Rb : Nat → (Nat → Option Nat) → (Nat → va_E) → (Nat → va_E) → Prop} {ok : Nat → Nat → Int → Int → Bool} (hrf : ∀ b G f, Rb b G f f) (htr : ∀ b G f u w, Rb b G f u → Rb b G u w → Rb b G f w) (hup : ∀ b G f a k e x y, ok b k x y = true → G a = some k → rk_dif x y (f a) e → Rb b G f (va_up f a e)) (hz : ∀ G f u, Rb 0 G f u → u = f) : rk_LvOk (rk_Lb nb Rb) (rk_wb9 nb ok) := by
  intro G
  refine ⟨fun n f b _ _ => hrf b G f, fun f u h => hz G f u (h 0 h0 (Nat.zero_testBit 0)), fun n m f0 f u hle h1 h2 b hb ht => ?_, fun n f0 f a k e x y hw ha hd h b hb ht => ?_⟩
  · refine htr b G f0 f u (h2 b hb ht) (h1 b hb ?_)
    unfold rk_lle at hle
    rw [Nat.beq_eq] at hle
    have h3 : Nat.testBit (m &&& n) b = Nat.testBit m b := by
      show Nat.testBit (Nat.land m n) b = _
      rw [hle]
    rw [Nat.testBit_and, ht, Bool.and_false] at h3
    exact h3.symm
  · unfold rk_wb9 at hw
    have h1 := List.all_eq_true.mp hw b (List.mem_range.mpr hb)
    rw [ht, Bool.false_or] at h1
    exact htr b G f0 f _ (h b hb ht) (hup b G f a k e x y h1 ha hd)
def rm_Lv : rk_Lvt := rk_Lb 11 rm_Rb
def rm_wr : Nat → rk_Wr := rk_wb9 11 rm_okb
theorem rm_LvOk : rk_LvOk rm_Lv rm_wr := rk_Lb_ok (by decide) rm_Rb_rf (fun b G f u w => rm_Rb_tr b) (fun b G f a k e x y => rm_Rb_up b) (fun _ _ _ h => h)
/-- what the model's methods want: one model, and it is sound -/
def rm_PI : rk_Pwt := fun G f => rm_one G ∧ ∀ a0, G a0 = some 12 → rm_INV G f a0
theorem rm_PIok {lv : Nat} (h : Nat.testBit lv 3 = false) : ∀ (G : Nat → Option Nat) (f u : Nat → va_E), rm_Lv G lv f u → rm_PI G f → rm_PI G u := fun G f u hL hP => ⟨hP.1, fun a0 ha => (hL 3 (by decide) h : rm_Rb 3 G f u) hP.1 a0 ha (hP.2 a0 ha)⟩
/-- the class's -/
def rc_Rb (b : Nat) (G : Nat → Option Nat) (f u : Nat → va_E) : Prop := match b with
  | 0 => u = f
  | 1 => rk_fldE 9 1 G f u
  | 2 => rk_fldE 1 4 G f u
  | 3 => rk_fldE 10 6 G f u
  | 4 => rk_fldE 11 2 G f u
  | _ => True
def rc_okb (b k : Nat) (x y : Int) : Bool := match b with
  | 0 => false
  | 1 => rk_okf 9 1 k x y
  | 2 => rk_okf 1 4 k x y
  | 3 => rk_okf 10 6 k x y
  | 4 => rk_okf 11 2 k x y
  | _ => true
def rc_Lv : rk_Lvt := rk_Lb 5 rc_Rb
def rc_wr : Nat → rk_Wr := rk_wb9 5 rc_okb
theorem rc_LvOk : rk_LvOk rc_Lv rc_wr := by
  refine rk_Lb_ok (by decide) (fun b G f => ?_) (fun b G f u w h1 h2 => ?_) (fun b G f a k e x y hok ha hd => ?_) (fun _ _ _ h => h)
  · rcases b with _ | _ | _ | _ | _ | b
    · rfl
    · exact fun _ _ => rfl
    · exact fun _ _ => rfl
    · exact fun _ _ => rfl
    · exact fun _ _ => rfl
    · trivial
  · rcases b with _ | _ | _ | _ | _ | b
    · exact Eq.trans h2 h1
    · exact fun a ha => (h1 a ha).trans (h2 a ha)
    · exact fun a ha => (h1 a ha).trans (h2 a ha)
    · exact fun a ha => (h1 a ha).trans (h2 a ha)
    · exact fun a ha => (h1 a ha).trans (h2 a ha)
    · trivial
  · rcases b with _ | _ | _ | _ | _ | b
    · cases hok
    · exact rk_fldE_up hok ha hd (fun _ _ => rfl)
    · exact rk_fldE_up hok ha hd (fun _ _ => rfl)
    · exact rk_fldE_up hok ha hd (fun _ _ => rfl)
    · exact rk_fldE_up hok ha hd (fun _ _ => rfl)
    · trivial
end
section
/-- a method's certificate, from a place within it -/
def rk_chkM (K : Nat → rk_KD) (ER : rk_Er) (ap : Nat × Nat) (ctr : rk_Ctr) (P : rk_Pg) (wr : Nat → rk_Wr) (lv : Nat) (rk pc0 : Nat) (ts : List rk_AV) (alts : List rk_Alt) (C : Int) (cs : List rk_Cut) (fuel : Nat) : Bool :=
  Nat.ble ts.length P.2.1 && (decide (0 ≤ C) && (rk_tOk ts && (rk_go K ER ap ctr P wr lv rk alts cs 0 none C [] ts.length fuel pc0 (rk_S0 ts.length ts []) &&
    cs.all (fun B => rk_tOk B.2.1 && (Nat.ble (rk_nT B) P.2.1 && (Nat.ble B.2.2.1.length B.2.1.length && (rk_okK P.2.1 (rk_nT B) B.2.1 B.2.2.1 && (rk_okL B.2.1 B.2.2.2.1.1 B.2.2.2.1.2 && (rk_okL B.2.1 B.2.2.2.2.1 B.2.2.2.2.2 &&
      rk_go K ER ap ctr P wr lv rk alts cs 0 (some B.2.2.2.1) B.2.2.2.2.1 B.2.2.2.2.2 B.2.1.length fuel B.1 (rk_S0 (rk_nT B) B.2.1 B.2.2.1))))))))))
set_option maxHeartbeats 1000000 in
theorem rk_mid {base : Nat} {l : Launch} {K : Nat → rk_KD} {E : Nat → Nat → rk_AV} {tys : List (ClassId × FieldType)} {D : va_G} {NU : State → Prop} {ER : rk_Er} (hER : ∀ k a b t, ER k a b = some t → ∀ j : Nat, a ≤ (j : Int) → (j : Int) ≤ b → E k j = t) {ap : Nat × Nat} (hap : ∀ cA C, tys[ap.1]? = some (cA, .object C) → ∃ q, vwCl[ap.2]? = some q ∧ q.1 = C) (hNc : ∀ u U : State, u.vm = U.vm → u.heap = U.heap → NU u → NU U)
    {Lv : rk_Lvt} {wr : Nat → rk_Wr} (hLv : rk_LvOk Lv wr) {Pw : rk_Pwt} {mt : Nat → rk_Mt} {ctr : rk_Ctr} (hct : ∀ z avs alts C pu, ctr z avs = some (alts, C, pu) → rk_Met base l K E tys D NU Lv Pw (mt z) avs alts C pu) {M : rk_Mt} {P : rk_Pg} (hP1 : P.1 = M.2.1) (hP2 : P.2.1 = M.2.2.1)
    {p : Program} {e : Env} {R : Room} {s : State} {m : MethodId} {args : Array Value} {below : List Frame} {meth : Method} {c : Code} {A : Nat → Prop} {G : Nat → Option Nat} {L : List Nat} (hx : p.tables.exec = Jvm.exec) (hb : c.code = M.2.1) (hml9 : c.maxLocals = M.2.2.1) (hr : meth.sig.returnType = M.2.2.2.1) (hlocks : meth.locks = false) (hown : s.vm.findClass M.1.cls = some m.cls) (hts : ∀ w ∈ rk_ws M, w.before args s = true) (hK : va_K D vwCl tys s) (hN : NU s) (hNw : ∀ (U : State) (locs : List Loc), va_S A s.heap U.heap locs → s.WarmedH U.vm → NU U)
    (hfl : rk_FlOk s args (rk_ws M) M.1.cls P.2.2.1) (hml : rk_MlOk s args R M.1.cls mt P.2.2.2.1) (hcs : ∀ i v, P.2.2.2.2.1 i = some v → (Jvm.Cond.constant M.1.cls i v).before args s = true) (hss : ∀ i k, P.2.2.2.2.2.1 i = some k → ∃ (tx : String) (a : Nat), vk_R M.1.cls i tx a s ∧ (E k 0).2.1 = (a : Int))
    (hac : ∀ idx, (P.2.2.2.2.2.2 idx = 1 → (Jvm.Cond.methodLink M.1.cls idx arraycopyName).before args s = true ∧ (Jvm.Cond.native arraycopyName).before args s = true ∧ (Jvm.Cond.static arraycopyName).before args s = true ∧ (Jvm.Cond.initialized "java/lang/System").before args s = true ∧ 1 ≤ R.frames ∧ 8 + (nativeFrameWords "java/lang/System" "arraycopy" 5 + 11) ≤ R.locals) ∧ (P.2.2.2.2.2.2 idx = 2 → (Jvm.Cond.methodLink M.1.cls idx Lib.Math.min.name).before args s = true ∧ (Jvm.Cond.static Lib.Math.min.name).before args s = true ∧ (Jvm.Cond.initialized "java/lang/Math").before args s = true ∧ (Jvm.Cond.code Lib.Math.min.name Lib.Math.min.code 2 (some .int)).before args s = true ∧ 1 ≤ R.frames ∧ 8 + 13 ≤ R.locals))
    (hBL : ∀ a ∈ L, base ≤ a) (hBs : base ≤ s.heap.size) (hA : ∀ q : Nat, s.heap.size ≤ q → A q) {cm sm : Nat} (hcm : cm ≤ R.cells ∧ sm ≤ R.slots)
    {lv : Nat} (hPw : ∀ (G : Nat → Option Nat) (f u : Nat → va_E), Lv G lv f u → Pw G f → Pw G u) {rk : Nat} (hrt : rk_retOk rk M.2.2.2.1) {alts : List rk_Alt} {C : Int} {cs : List rk_Cut} {fuel : Nat} {Pq : Option Value → (Nat → va_E) → Prop}
    {X : Int} {f : Nat → va_E} {H : Heap} {locs : List Loc} (hX : 0 ≤ X) (hXC : X + C ≤ rk_top) (hTY : rk_TY K E tys G X L f) (hPw0 : Pw G f) (hP : va_P D vwCl (va_pl L f) H) (hD : va_D A (va_pl L f)) (hS : va_S A s.heap H locs)
    (hq : ∀ v u, rk_alt G (X + C) ([] : List Value) alts v → rk_TY K E tys G (X + C) L u → Lv G lv f u → Pq v u)
    {pc0 : Nat} {ts : List rk_AV} {lo : List (Nat × Value)} (vs : Nat → Value) (hlo : ∀ i t, ts[i]? = some t → t.1 < 4 → (i, vs i) ∈ lo) (hty : ∀ i t, ts[i]? = some t → rk_has G X t (vs i)) (h : rk_chkM K ER ap ctr P wr lv rk pc0 ts alts C cs fuel = true) : rv_G p l e R s m args below meth c (MQ below (rk_Q Pq (rk_B D tys L A) A) args s cm sm A) M.2.2.1 cm sm H locs pc0 [] lo := by
  unfold rk_chkM at h
  simp only [Bool.and_eq_true, Nat.ble_eq, decide_eq_true_eq] at h
  obtain ⟨w1, w2, w3, w4, w5⟩ := h
  have hb' : c.code = P.1 := by rw [hP1]; exact hb
  let Qf := MQ below (rk_Q Pq (rk_B D tys L A) A) args s cm sm A
  -- the end of the method
  have Hret : ∀ (X1 : Int) (nE : Nat) (r0 : Nat → Value) (eN : Nat) (cA : Int) (lA : List (Nat × Int)), 0 ≤ X1 → (∀ q ∈ lA, q.1 < nE) → X1 + (cA + rk_lv r0 lA) ≤ X + C → (∀ i, i < eN → i < nE ∧ ([] : List Value)[i]? = some (r0 i)) → ∀ (pc : Nat) (ins : Instr) (S : rk_St), decode P.1 pc = .ok (ins, 1) → rk_rt eN rk alts cA lA ins S = true → rk_G p l e R s m args below meth c cm sm Qf (fun u => Lv G lv f u, K, E, tys, D, A, s.heap, G, L, M.2.2.1, X1) nE r0 pc S := by
    intro X1 nE r0 eN cA lA hX1 hlA hM heN pc ins S hdg hrr r f1 H1 locs1 ls1 st1 hon
    obtain ⟨lo, sk, en, kn, fc, co⟩ := S
    unfold rk_rt at hrr
    rw [Bool.and_eq_true] at hrr
    obtain ⟨hc1, hrr⟩ := hrr
    have hco : X1 + co ≤ X + C := by
      split at hc1
      · cases hc1
      · rename_i w hw
        rw [decide_eq_true_eq] at hc1
        have h1 := rk_low_ok hon.1 lA w hw
        rw [rk_lv_eq hon.2.2.2.2.2.1 lA hlA] at h1
        omega
    obtain ⟨o1, o2, o3, o4, o5, o6, o7, o8⟩ := hon
    obtain ⟨oP, oD, oS, oT, oPf⟩ := o8
    have hargs : ∀ q : Nat × rk_AV, (Nat.blt q.1 eN && (match en[q.1]? with
        | none => false
        | some u => rk_le u q.2)) = true → ∃ w, ([] : List Value)[q.1]? = some w ∧ rk_has G (X + C) q.2 w := by
      intro q hq
      rw [Bool.and_eq_true, Nat.blt_eq] at hq
      obtain ⟨q1, q2⟩ := hq
      obtain ⟨b1, b2⟩ := heN _ q1
      refine ⟨r0 q.1, b2, ?_⟩
      split at q2
      · cases q2
      · rename_i u hu
        rw [← o6 _ b1]
        have h3 : rk_has G (X1 + co) u (r q.1) := o1 _ _ hu
        exact rk_has_X hco (rk_le_ok (by omega) q2 h3)
    have hfin : ∀ (v : Option Value), rk_alt G (X + C) ([] : List Value) alts v → ∀ t : State, t.heap = H1 → s.WarmedH t.vm → rk_Q Pq (rk_B D tys L A) A args s (.returned v) t := fun v hv t ht hW => ⟨⟨v, f1, rfl, hq v f1 hv (rk_TY_X hco oT) oPf, ⟨by rw [ht]; exact oP, va_K.moved hW.alike hK, oD⟩⟩, oS.F ht⟩
    have haok : ∀ (t : rk_AV) (w : Value), rk_has G (X1 + co) t w → alts.any (rk_aOK eN en t) = true → rk_alt G (X + C) ([] : List Value) alts (some w) := by
      intro t w hw hany
      rw [List.any_eq_true] at hany
      obtain ⟨a, ha, hok⟩ := hany
      unfold rk_aOK at hok
      rw [Bool.and_eq_true, Bool.and_eq_true, List.all_eq_true] at hok
      obtain ⟨h9, hle, hargs9⟩ := hok
      refine ⟨a, ha, ?_, fun q hq => hargs q (hargs9 q hq)⟩
      rw [if_neg (by
        intro h0
        rw [h0] at h9
        simp at h9)]
      exact ⟨w, rfl, rk_has_X hco (rk_le_ok (by omega) hle hw)⟩
    rw [hP1] at hdg
    split at hrr
    · rw [Bool.and_eq_true, Bool.and_eq_true, Nat.beq_eq] at hrr
      obtain ⟨k0, k1, k2⟩ := hrr
      have hsk : sk = [] := by
        cases sk with
        | nil => rfl
        | cons _ _ => simp at k1
      subst hsk
      rw [o5]
      refine W.vret hx hb (by rw [hr]; exact hrt.1 k0) (hfin none ?_) oS.2.2 hdg
      rw [List.any_eq_true] at k2
      obtain ⟨a, ha, hok⟩ := k2
      unfold rk_vOK at hok
      rw [Bool.and_eq_true, List.all_eq_true, Nat.beq_eq] at hok
      refine ⟨a, ha, ?_, fun q hq => hargs q (hok.2 q hq)⟩
      rw [if_pos hok.1]
    · split at hrr
      · rename_i y
        split at hrr
        · cases hrr
        · rename_i t ht
          rw [Bool.and_eq_true, Bool.or_eq_true, Bool.and_eq_true, Bool.and_eq_true, Nat.beq_eq, Nat.beq_eq] at hrr
          obtain ⟨hty, hany⟩ := hrr
          have hv : rk_has G (X1 + co) t (r y) := o1 _ _ ht
          rw [o5]
          rcases hty with ⟨k0, k1⟩ | ⟨k0, k1⟩
          · obtain ⟨x, ex⟩ := rk_isI_ok k1 hv
            simp only [List.map_cons, List.map_nil]
            rw [ex]
            rw [ex] at hv
            exact W.iret hx hb (by rw [hr]; exact hrt.2.1 k0) (hfin _ (haok t _ hv hany)) oS.2.2 hdg
          · obtain ⟨x, ex, p1, p2⟩ := rk_le_ok (X := X1 + co) (by omega) k1 hv
            simp only [List.map_cons, List.map_nil]
            rw [ex]
            rw [ex] at hv
            have hx01 : x = 0 ∨ x = 1 := by
              rcases (by omega : x.toInt = 0 ∨ x.toInt = 1) with h0 | h0
              · exact Or.inl (Int32.toInt_inj.mp h0)
              · exact Or.inr (Int32.toInt_inj.mp h0)
            refine W.zret (ty := .boolean) hx hb (by rw [hr]; exact hrt.2.2.1 k0) ?_ (hfin _ (haok t _ hv hany)) oS.2.2 hdg
            rcases hx01 with rfl | rfl <;> rfl
      · cases hrr
    · split at hrr
      · rename_i y
        split at hrr
        · cases hrr
        · rename_i t ht
          rw [Bool.and_eq_true, Bool.and_eq_true, Nat.beq_eq] at hrr
          obtain ⟨k0, k1, hany⟩ := hrr
          have hv : rk_has G (X1 + co) t (r y) := o1 _ _ ht
          rw [o5]
          obtain ⟨rt, hrt1, hrt2⟩ := hrt.2.2.2 k0
          exact W.aret hx hb (by rw [hr]; exact hrt1) hrt2 (rk_isR_ok k1 hv) (hfin _ (haok t _ hv hany)) oS.2.2 hdg
      · cases hrr
    · cases hrr
  -- the walk from a cut
  have Hcap : ∀ (X1 : Int) (nE : Nat) (r0 : Nat → Value) (cA : Int) (lA : List (Nat × Int)), (∀ q ∈ lA, q.1 < nE) → X1 + (cA + rk_lv r0 lA) ≤ X + C → ∀ (en : List rk_AV) (co X' : Int) (r : Nat → Value), (∀ y, y < nE → r y = r0 y) → (∀ y t, en[y]? = some t → rk_has G X' t (r y)) → rk_cap cA lA en co = true → X1 + co ≤ rk_top := by
    intro X1 nE r0 cA lA hlA hM en co X' r hr0 hen hcap
    unfold rk_cap at hcap
    split at hcap
    · cases hcap
    · rename_i w hw
      rw [decide_eq_true_eq] at hcap
      have h1 := rk_low_ok hen lA w hw
      rw [rk_lv_eq hr0 lA hlA] at h1
      omega
  obtain ⟨hLr, hL0, hLc, hLw⟩ := hLv G
  have Go : ∀ (X1 : Int) (nE : Nat) (r0 : Nat → Value) (eN : Nat) (tA : Option (Int × List (Nat × Int))) (cA : Int) (lA : List (Nat × Int)), 0 ≤ X1 → 0 ≤ cA + rk_lv r0 lA → (∀ q ∈ lA, q.1 < nE) → X1 + (cA + rk_lv r0 lA) ≤ X + C → (∀ i, i < eN → i < nE ∧ ([] : List Value)[i]? = some (r0 i)) → (∀ (B : rk_Cut) (S : rk_St), B ∈ cs → rk_ent tA cA lA B S = true → rk_G p l e R s m args below meth c cm sm Qf (fun u => Lv G lv f u, K, E, tys, D, A, s.heap, G, L, M.2.2.1, X1) nE r0 B.1 S) → ∀ (pc : Nat) (S : rk_St), rk_go K ER ap ctr P wr lv rk alts cs eN tA cA lA nE fuel pc S = true → rk_G p l e R s m args below meth c cm sm Qf (fun u => Lv G lv f u, K, E, tys, D, A, s.heap, G, L, M.2.2.1, X1) nE r0 pc S := by
    intro X1 nE r0 eN tA cA lA hX1 hM0 hlA hM heN Hcut pc S hgo
    exact rk_go_ok (Pf := fun u => Lv G lv f u) (fun u hu => hPw G f u hu hPw0) hL0 (fun n f1 u h1 h2 h3 => hLc lv n f f1 u h1 h2 h3) (fun f1 a k e9 x y h1 h2 h3 h4 => hLw lv f f1 a k e9 x y h1 h2 h3 h4) hx hb' hml9 hP2 hown hts (fun w hw => List.mem_cons_of_mem _ hw) hK hN hNw hNc hfl hER hap hml hct hBL hBs hcs hss hac hA hcm hX1 (by omega) (Hcap X1 nE r0 cA lA hlA hM) (Hret X1 nE r0 eN cA lA hX1 hlA hM heN) Hcut fuel pc S hgo
  -- what a cut's own rows say
  have hcut : ∀ B ∈ cs, rk_okK P.2.1 (rk_nT B) B.2.1 B.2.2.1 = true ∧ rk_okL B.2.1 B.2.2.2.1.1 B.2.2.2.1.2 = true ∧ rk_okL B.2.1 B.2.2.2.2.1 B.2.2.2.2.2 = true ∧ B.2.2.1.length ≤ B.2.1.length ∧ rk_go K ER ap ctr P wr lv rk alts cs 0 (some B.2.2.2.1) B.2.2.2.2.1 B.2.2.2.2.2 B.2.1.length fuel B.1 (rk_S0 (rk_nT B) B.2.1 B.2.2.1) = true := by
    intro B hB
    have hBc := List.all_eq_true.mp w5 B hB
    rw [Bool.and_eq_true, Bool.and_eq_true, Bool.and_eq_true, Bool.and_eq_true, Bool.and_eq_true, Bool.and_eq_true] at hBc
    obtain ⟨-, -, c3, c4, c5, c6, c7⟩ := hBc
    exact ⟨c4, c5, c6, Nat.ble_eq ▸ c3, c7⟩
  -- what holds as a cut is come to
  have Arr : ∀ (X1 : Int) (nE : Nat) (r0 : Nat → Value) (tA : Option (Int × List (Nat × Int))) (cA : Int) (lA : List (Nat × Int)), 0 ≤ X1 → (∀ q ∈ lA, q.1 < nE) → (∀ a, tA = some a → ∀ q ∈ a.2, q.1 < nE) → ∀ (B : rk_Cut) (S : rk_St), B ∈ cs → rk_ent tA cA lA B S = true → ∀ (r : Nat → Value) (f2 : Nat → va_E) (H2 : Heap) (locs2 : List Loc) (ls2 : Array Slot) (st2 : List Value), rk_on (fun u => Lv G lv f u, K, E, tys, D, A, s.heap, G, L, M.2.2.1, X1) nE r0 r S f2 H2 locs2 ls2 st2 →
      ∃ (r1 : Nat → Value) (co : Int), st2 = [] ∧ 0 ≤ co ∧ 0 ≤ B.2.2.2.2.1 + rk_lv r1 B.2.2.2.2.2 ∧ 0 ≤ B.2.2.2.1.1 + rk_lv r1 B.2.2.2.1.2 ∧ B.2.2.2.2.1 + rk_lv r1 B.2.2.2.2.2 + co ≤ cA + rk_lv r0 lA ∧ (∀ a, tA = some a → B.2.2.2.1.1 + rk_lv r1 B.2.2.2.1.2 + 1 ≤ a.1 + rk_lv r0 a.2) ∧ (∀ y t, B.2.1[y]? = some t → rk_has G (X1 + co) t (r1 y)) ∧ lv_has ls2 M.2.2.1 ((rk_loc 0 (B.2.1.take (rk_nT B))).map fun q => (q.1, r1 q.2)) ∧ (∀ q ∈ rk_kn0 (rk_nT B) B.2.2.1, ∃ a, r1 q.1 = .ref a ∧ rk_kf r1 (f2 a) q.2.1 = some (r1 q.2.2)) ∧ rk_w (fun u => Lv G lv f u, K, E, tys, D, A, s.heap, G, L, M.2.2.1, X1 + co) 0 f2 H2 locs2 := by
    intro X1 nE r0 tA cA lA hX1 hlA htA B S hB hent r f2 H2 locs2 ls2 st2 hon
    obtain ⟨ck, ct, cc9, cl9, -⟩ := hcut B hB
    have ct := rk_okL_ok ct
    have cc9 := rk_okL_ok cc9
    unfold rk_okK at ck
    rw [Bool.and_eq_true, Bool.and_eq_true, List.all_eq_true, List.all_eq_true, Bool.or_eq_true, Nat.beq_eq] at ck
    obtain ⟨ck0, ck1, ck2⟩ := ck
    obtain ⟨lo, sk, en, kn, fc, co⟩ := S
    rcases sk with _ | ⟨y0, sk⟩
    · simp only [rk_ent] at hent
      rw [Bool.and_eq_true, Bool.and_eq_true] at hent
      obtain ⟨hfit, hms, hmt⟩ := hent
      obtain ⟨o1, o2, o3, o4, o5, o6, o7, o8⟩ := hon
      generalize hlo2 : lo ++ rk_xt lo kn (rk_nT B) B.2.2.1 = lo2 at hfit hms hmt
      have hf2 := rk_fit2_ok B.2.1 0 hfit
      -- the locals as the new start's symbols
      let r1 : Nat → Value := fun i => if (match B.2.1[i]? with
        | some t => Nat.blt t.1 4
        | none => false) then (match rk_lk lo2 i with
          | some y => r y
          | none => .null) else .null
      have hr1 : ∀ (i : Nat) (t : rk_AV), B.2.1[i]? = some t → t.1 < 4 → ∃ y u, rk_lk lo2 i = some y ∧ en[y]? = some u ∧ rk_le u t = true ∧ r1 i = r y := by
        intro i t ht h4
        obtain ⟨y, u, e1, e2, e3⟩ := hf2 i t ht h4
        rw [Nat.zero_add] at e1
        refine ⟨y, u, e1, e2, e3, ?_⟩
        show (if (match B.2.1[i]? with
          | some t => Nat.blt t.1 4
          | none => false) then (match rk_lk lo2 i with
            | some y => r y
            | none => .null) else .null) = r y
        rw [ht]
        dsimp only
        rw [if_pos (by rw [Nat.blt_eq]; exact h4), e1]
      have hty : ∀ y t, B.2.1[y]? = some t → rk_has G (X1 + co) t (r1 y) := by
        intro y t ht
        by_cases h4 : t.1 < 4
        · obtain ⟨z, u, e1, e2, e3, e4⟩ := hr1 y t ht h4
          rw [e4]
          exact rk_le_ok (by omega) e3 (o1 _ _ e2)
        · have hnull : r1 y = .null := by
            show (if (match B.2.1[y]? with
              | some t => Nat.blt t.1 4
              | none => false) then (match rk_lk lo2 y with
                | some y => r y
                | none => .null) else .null) = .null
            rw [ht]
            dsimp only
            rw [if_neg (by rw [Nat.blt_eq]; exact h4)]
          rw [hnull]
          obtain ⟨n, a, b⟩ := t
          dsimp only at h4
          rcases n with _ | _ | _ | _ | n
          · omega
          · omega
          · omega
          · omega
          · exact Or.inl rfl
      have hsb : ∀ (l9 : List (Nat × Int)), (∀ q ∈ l9, q.1 < B.2.1.length ∧ ∃ a b, B.2.1[q.1]? = some (0, a, b)) → ∀ q ∈ l9, ∀ y, rk_lk lo2 q.1 = some y → r1 q.1 = r y := by
        intro l9 h9 q hq y hy
        obtain ⟨g1, a, b, ht⟩ := h9 q hq
        obtain ⟨z, u, e1, e2, e3, e4⟩ := hr1 q.1 _ ht (by simp)
        rw [e4]
        rw [hy] at e1
        cases e1
        rfl
      have hin : ∀ i y, i < rk_nT B → rk_lk lo2 i = some y → (i, y) ∈ lo := by
        intro i y hi hy
        have := rk_lk_ok lo2 hy
        rw [← hlo2] at this
        rcases List.mem_append.mp this with h | h
        · exact h
        · obtain ⟨q, z, y', -, e2, -⟩ := rk_xt_ok _ _ h
          omega
      refine ⟨r1, co, o5, o7.1, cc9.2 G _ r1 hty, ct.2 G _ r1 hty, ?_, ?_, hty, ?_, ?_, ?_⟩
      · have := rk_ms_ok (r1 := r1) hms o3 o1 (hsb _ cc9.1)
        dsimp only at this
        rw [rk_lv_eq o6 lA hlA] at this
        exact this
      · intro a ha
        subst ha
        have := rk_ms_ok (r1 := r1) hmt o3 o1 (hsb _ ct.1)
        rw [rk_lv_eq o6 a.2 (htA a rfl)] at this
        exact this
      · refine ⟨o4.1, o4.2.1, fun q hq => ?_⟩
        obtain ⟨z, hz, rfl⟩ := List.mem_map.mp hq
        obtain ⟨i, t, e1, e2, e3⟩ := rk_loc_ok _ 0 hz
        rw [Nat.zero_add] at e1
        subst e1
        have hiT : i < rk_nT B := by
          have := (List.getElem?_eq_some_iff.mp e2).1
          rw [List.length_take] at this
          omega
        rw [List.getElem?_take_of_lt hiT] at e2
        obtain ⟨y, u, d1, d2, d3, d4⟩ := hr1 i t e2 e3
        dsimp only
        rw [d4]
        exact o4.2.2 (i, r y) (List.mem_map.mpr ⟨(i, y), hin i y hiT d1, rfl⟩)
      · intro q hq
        obtain ⟨k, z, hz, rfl⟩ := rk_kn0_ok _ _ hq
        dsimp only
        have hz2 := ck1 z (List.mem_of_getElem? hz)
        rw [Bool.and_eq_true, Bool.and_eq_true, Nat.blt_eq, Nat.blt_eq] at hz2
        obtain ⟨z1, z2, z3⟩ := hz2
        have hkl : k < B.2.2.1.length := (List.getElem?_eq_some_iff.mp hz).1
        have hpl : rk_nT B + k < B.2.1.length := by
          unfold rk_nT
          omega
        have htp : B.2.1[rk_nT B + k]? = some B.2.1[rk_nT B + k] := List.getElem?_eq_getElem hpl
        have ht4 : (B.2.1[rk_nT B + k]).1 < 4 := by
          have := ck2 (B.2.1[rk_nT B + k]) (by
            rw [List.mem_iff_getElem?]
            exact ⟨k, by rw [List.getElem?_drop]; exact htp⟩)
          rw [Nat.blt_eq] at this
          exact this
        obtain ⟨v, u, d1, d2, d3, d4⟩ := hr1 _ _ htp ht4
        have hmem := rk_lk_ok lo2 d1
        rw [← hlo2] at hmem
        have hx9 : ∃ y, rk_lk lo z.1 = some y ∧ rk_kn y z.2 kn = some v := by
          rcases List.mem_append.mp hmem with h | h
          · -- a local beyond the locals: it isn't there
            have h5 := lv_lt (o4.2.2 (rk_nT B + k, r v) (List.mem_map.mpr ⟨(rk_nT B + k, v), h, rfl⟩))
            rw [o4.1] at h5
            have h6 : rk_fn (fun u => Lv G lv f u, K, E, tys, D, A, s.heap, G, L, M.2.2.1, X1) = M.2.2.1 := rfl
            rw [h6] at h5
            rcases ck0 with h7 | h7
            · rw [List.isEmpty_iff] at h7
              rw [h7] at hkl
              simp at hkl
            · omega
          · obtain ⟨q, z', y', e1, e2, e3, e4⟩ := rk_xt_ok _ _ h
            have : q = k := by omega
            subst this
            rw [hz] at e1
            cases e1
            exact ⟨y', e3, e4⟩
        obtain ⟨y, hy1, hy2⟩ := hx9
        obtain ⟨a, b1, b2⟩ := o2 _ (rk_kn_ok kn hy2)
        dsimp only at b1 b2
        have hrz : r1 z.1 = r y := by
          split at z3
          · rename_i t ht
            rw [Nat.blt_eq] at z3
            obtain ⟨y9, u9, g1, g2, g3, g4⟩ := hr1 z.1 t ht z3
            have h1 := rk_lk_app (xs := rk_xt lo kn (rk_nT B) B.2.2.1) lo hy1
            rw [hlo2, g1] at h1
            cases h1
            exact g4
          · cases z3
        refine ⟨a, by rw [hrz]; exact b1, ?_⟩
        rw [d4, ← b2]
        unfold rk_kf
        rw [if_pos z2, if_pos z2]
      · obtain ⟨a1, a2, a3, a4, a5⟩ := o8
        refine ⟨a1, a2, a3, ?_, a5⟩
        rw [Int.add_zero]
        exact a4
    · simp [rk_ent] at hent
  -- cuts by their measure
  have Cuts : ∀ (n : Nat) (B : rk_Cut), B ∈ cs → ∀ (X1 : Int) (r1 : Nat → Value) (f1 : Nat → va_E) (H1 : Heap) (locs1 : List Loc) (ls1 : Array Slot), 0 ≤ X1 → 0 ≤ B.2.2.2.2.1 + rk_lv r1 B.2.2.2.2.2 → (B.2.2.2.1.1 + rk_lv r1 B.2.2.2.1.2).toNat < n → X1 + (B.2.2.2.2.1 + rk_lv r1 B.2.2.2.2.2) ≤ X + C → (∀ y t, B.2.1[y]? = some t → rk_has G X1 t (r1 y)) → lv_has ls1 M.2.2.1 ((rk_loc 0 (B.2.1.take (rk_nT B))).map fun q => (q.1, r1 q.2)) → (∀ q ∈ rk_kn0 (rk_nT B) B.2.2.1, ∃ a, r1 q.1 = .ref a ∧ rk_kf r1 (f1 a) q.2.1 = some (r1 q.2.2)) → rk_w (fun u => Lv G lv f u, K, E, tys, D, A, s.heap, G, L, M.2.2.1, X1) 0 f1 H1 locs1 → W p l e R s m args below meth c H1 locs1 cm sm Qf (F0 m B.1 ls1 []) := by
    intro n
    induction n with
    | zero => intro B _ X1 r1 f1 H1 locs1 ls1 _ _ h9; omega
    | succ n ih =>
      intro B hB X1 r1 f1 H1 locs1 ls1 hX1 hM0 hn hM hty hls hkn hw
      obtain ⟨-, ct, cc9, -, c5⟩ := hcut B hB
      have ct := rk_okL_ok ct
      have cc9 := rk_okL_ok cc9
      have hon : rk_on (fun u => Lv G lv f u, K, E, tys, D, A, s.heap, G, L, M.2.2.1, X1) B.2.1.length r1 r1 (rk_S0 (rk_nT B) B.2.1 B.2.2.1) f1 H1 locs1 ls1 [] := by
        refine ⟨fun y t ht => ?_, hkn, fun q hq => (by cases hq), hls, rfl, fun _ _ => rfl, ⟨Int.le_refl 0, by omega⟩, hw⟩
        show rk_has G (X1 + 0) t (r1 y)
        rw [Int.add_zero]
        exact hty y t ht
      refine Go X1 B.2.1.length r1 0 (some B.2.2.2.1) B.2.2.2.2.1 B.2.2.2.2.2 hX1 hM0 (fun q hq => (cc9.1 q hq).1) hM (fun i hi => by omega) ?_ B.1 (rk_S0 (rk_nT B) B.2.1 B.2.2.1) c5 r1 f1 H1 locs1 ls1 [] hon
      intro B2 S2 hB2 hent r f2 H2 locs2 ls2 st2 hon2
      obtain ⟨r2, co, e1, e2, e3, e3t, e4, e4t, e5, e6, e6k, e7⟩ := Arr X1 B.2.1.length r1 (some B.2.2.2.1) B.2.2.2.2.1 B.2.2.2.2.2 hX1 (fun q hq => (cc9.1 q hq).1) (fun a ha q hq => by cases ha; exact (ct.1 q hq).1) B2 S2 hB2 hent r f2 H2 locs2 ls2 st2 hon2
      have e4t := e4t _ rfl
      subst e1
      exact ih B2 hB2 (X1 + co) r2 f2 H2 locs2 ls2 (by omega) e3 (by omega) (by omega) e5 e6 e6k e7
  intro ls hl
  have hw0 : rk_w (fun u => Lv G lv f u, K, E, tys, D, A, s.heap, G, L, M.2.2.1, X) 0 f H locs := ⟨hP, hD, hS, by rw [Int.add_zero]; exact hTY, hLr lv f⟩
  have hon : rk_on (fun u => Lv G lv f u, K, E, tys, D, A, s.heap, G, L, M.2.2.1, X) ts.length vs vs (rk_S0 ts.length ts []) f H locs ls [] := by
    refine ⟨fun y t ht => ?_, fun q hq => (by cases hq), fun q hq => (by cases hq), ⟨hl.1, hl.2.1, fun q hq => ?_⟩, rfl, fun _ _ => rfl, ⟨Int.le_refl 0, by omega⟩, hw0⟩
    · show rk_has G (X + 0) t (vs y)
      rw [Int.add_zero]
      exact hty y t ht
    · obtain ⟨z, hz, rfl⟩ := List.mem_map.mp hq
      rw [List.take_length] at hz
      obtain ⟨i, t, e1, e2, e3⟩ := rk_loc_ok ts 0 hz
      rw [Nat.zero_add] at e1
      subst e1
      exact hl.2.2 _ (hlo i t e2 e3)
  refine Go X ts.length vs 0 none C [] hX (by simp only [rk_lv]; omega) (fun q hq => by cases hq) (by simp only [rk_lv]; omega) (fun i hi => by omega) ?_ pc0 (rk_S0 ts.length ts []) w4 _ f H locs ls [] hon
  intro B2 S2 hB2 hent r f2 H2 locs2 ls2 st2 hon2
  obtain ⟨r2, co, e1, e2, e3, e3t, e4, -, e5, e6, e6k, e7⟩ := Arr X ts.length vs none C [] hX (fun q hq => by cases hq) (fun a ha => by cases ha) B2 S2 hB2 hent r f2 H2 locs2 ls2 st2 hon2
  subst e1
  simp only [rk_lv] at e4
  exact Cuts _ B2 hB2 (X + co) r2 f2 H2 locs2 ls2 (by omega) e3 (Nat.lt_succ_self _) (by omega) e5 e6 e6k e7
end
