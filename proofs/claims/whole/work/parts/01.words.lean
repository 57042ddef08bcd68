-- ===== PART A: goes FIRST, ahead of the names: the tables' words, and 'selects' of the private methods out of them =====
/-- a private method of a class that the tables say can be made, by its rows of tables_1 -/
def lw_okq (q : MethodName × Nat) : Prop := (q.1.cls ≠ "java/lang/invoke/MethodHandle" ∧ q.1.cls ≠ "java/lang/invoke/VarHandle") ∧ Cond.instantiable q.1.cls q.2 ∈ tables_1 ∧ Cond.privateMethod q.1 ∈ tables_1 ∧ Cond.instanceMethod q.1 ∈ tables_1
theorem lw_p0 : lw_okq (⟨"SlipHeaps$Hand", "offends", "(I)Z"⟩, 8) := ⟨⟨by decide +kernel, by decide +kernel⟩, List.mem_of_getElem? (i := 223) (by decide +kernel), List.mem_of_getElem? (i := 527) (by decide +kernel), List.mem_of_getElem? (i := 528) (by decide +kernel)⟩
theorem lw_p1 : lw_okq (⟨"SlipHeaps$Rings", "isDrawn", "(II)Z"⟩, 7) := ⟨⟨by decide +kernel, by decide +kernel⟩, List.mem_of_getElem? (i := 302) (by decide +kernel), List.mem_of_getElem? (i := 573) (by decide +kernel), List.mem_of_getElem? (i := 574) (by decide +kernel)⟩
theorem lw_p2 : lw_okq (⟨"SlipHeaps$Rings", "isRepelled", "(II)Z"⟩, 7) := ⟨⟨by decide +kernel, by decide +kernel⟩, List.mem_of_getElem? (i := 302) (by decide +kernel), List.mem_of_getElem? (i := 578) (by decide +kernel), List.mem_of_getElem? (i := 579) (by decide +kernel)⟩
theorem lw_p3 : lw_okq (⟨"SlipHeaps$Rings", "leastRest", "([IIII)I"⟩, 7) := ⟨⟨by decide +kernel, by decide +kernel⟩, List.mem_of_getElem? (i := 302) (by decide +kernel), List.mem_of_getElem? (i := 583) (by decide +kernel), List.mem_of_getElem? (i := 584) (by decide +kernel)⟩
theorem lw_p4 : lw_okq (⟨"SlipHeaps$Rings", "rest", "([III)I"⟩, 7) := ⟨⟨by decide +kernel, by decide +kernel⟩, List.mem_of_getElem? (i := 302) (by decide +kernel), List.mem_of_getElem? (i := 587) (by decide +kernel), List.mem_of_getElem? (i := 588) (by decide +kernel)⟩
theorem lw_p5 : lw_okq (⟨"SlipHeaps$Rings", "takeFromAll", "([IIIII)V"⟩, 7) := ⟨⟨by decide +kernel, by decide +kernel⟩, List.mem_of_getElem? (i := 302) (by decide +kernel), List.mem_of_getElem? (i := 596) (by decide +kernel), List.mem_of_getElem? (i := 597) (by decide +kernel)⟩
theorem lw_p6 : lw_okq (⟨"SlipHeaps$Rings", "takeFrom", "([IIII)V"⟩, 7) := ⟨⟨by decide +kernel, by decide +kernel⟩, List.mem_of_getElem? (i := 302) (by decide +kernel), List.mem_of_getElem? (i := 600) (by decide +kernel), List.mem_of_getElem? (i := 601) (by decide +kernel)⟩
theorem lw_p7 : lw_okq (⟨"SlipHeaps$Rings", "remember", "(IIII)V"⟩, 7) := ⟨⟨by decide +kernel, by decide +kernel⟩, List.mem_of_getElem? (i := 302) (by decide +kernel), List.mem_of_getElem? (i := 604) (by decide +kernel), List.mem_of_getElem? (i := 605) (by decide +kernel)⟩
theorem lw_p8 : lw_okq (⟨"SlipHeaps", "solveAmong", "(I[I)J"⟩, 12) := ⟨⟨by decide +kernel, by decide +kernel⟩, List.mem_of_getElem? (i := 29) (by decide +kernel), List.mem_of_getElem? (i := 624) (by decide +kernel), List.mem_of_getElem? (i := 625) (by decide +kernel)⟩
theorem lw_p9 : lw_okq (⟨"SlipHeaps$Parts", "link", "(I)V"⟩, 5) := ⟨⟨by decide +kernel, by decide +kernel⟩, List.mem_of_getElem? (i := 333) (by decide +kernel), List.mem_of_getElem? (i := 632) (by decide +kernel), List.mem_of_getElem? (i := 633) (by decide +kernel)⟩
theorem lw_p10 : lw_okq (⟨"SlipHeaps$Parts", "spread", "(I)V"⟩, 5) := ⟨⟨by decide +kernel, by decide +kernel⟩, List.mem_of_getElem? (i := 333) (by decide +kernel), List.mem_of_getElem? (i := 638) (by decide +kernel), List.mem_of_getElem? (i := 639) (by decide +kernel)⟩
theorem lw_p11 : lw_okq (⟨"SlipHeaps", "solve", "(I)I"⟩, 12) := ⟨⟨by decide +kernel, by decide +kernel⟩, List.mem_of_getElem? (i := 29) (by decide +kernel), List.mem_of_getElem? (i := 647) (by decide +kernel), List.mem_of_getElem? (i := 648) (by decide +kernel)⟩
theorem lw_p12 : lw_okq (⟨"SlipHeaps$Search", "place", "(IIIJ)V"⟩, 16) := ⟨⟨by decide +kernel, by decide +kernel⟩, List.mem_of_getElem? (i := 396) (by decide +kernel), List.mem_of_getElem? (i := 673) (by decide +kernel), List.mem_of_getElem? (i := 674) (by decide +kernel)⟩
theorem lw_p13 : lw_okq (⟨"SlipHeaps$Search", "record", "(IIJ)V"⟩, 16) := ⟨⟨by decide +kernel, by decide +kernel⟩, List.mem_of_getElem? (i := 396) (by decide +kernel), List.mem_of_getElem? (i := 677) (by decide +kernel), List.mem_of_getElem? (i := 678) (by decide +kernel)⟩
theorem lw_p14 : lw_okq (⟨"SlipHeaps$Search", "drawn", "(I)I"⟩, 16) := ⟨⟨by decide +kernel, by decide +kernel⟩, List.mem_of_getElem? (i := 396) (by decide +kernel), List.mem_of_getElem? (i := 684) (by decide +kernel), List.mem_of_getElem? (i := 685) (by decide +kernel)⟩
theorem lw_p15 : lw_okq (⟨"SlipHeaps$Search", "enter", "(IIIIJ)V"⟩, 16) := ⟨⟨by decide +kernel, by decide +kernel⟩, List.mem_of_getElem? (i := 396) (by decide +kernel), List.mem_of_getElem? (i := 693) (by decide +kernel), List.mem_of_getElem? (i := 694) (by decide +kernel)⟩
def lw_privs_1 : List (MethodName × Nat) := [(⟨"SlipHeaps$Hand", "offends", "(I)Z"⟩, 8), (⟨"SlipHeaps$Rings", "isDrawn", "(II)Z"⟩, 7), (⟨"SlipHeaps$Rings", "isRepelled", "(II)Z"⟩, 7), (⟨"SlipHeaps$Rings", "leastRest", "([IIII)I"⟩, 7), (⟨"SlipHeaps$Rings", "rest", "([III)I"⟩, 7), (⟨"SlipHeaps$Rings", "takeFromAll", "([IIIII)V"⟩, 7), (⟨"SlipHeaps$Rings", "takeFrom", "([IIII)V"⟩, 7), (⟨"SlipHeaps$Rings", "remember", "(IIII)V"⟩, 7), (⟨"SlipHeaps", "solveAmong", "(I[I)J"⟩, 12), (⟨"SlipHeaps$Parts", "link", "(I)V"⟩, 5), (⟨"SlipHeaps$Parts", "spread", "(I)V"⟩, 5), (⟨"SlipHeaps", "solve", "(I)I"⟩, 12), (⟨"SlipHeaps$Search", "place", "(IIIJ)V"⟩, 16), (⟨"SlipHeaps$Search", "record", "(IIJ)V"⟩, 16), (⟨"SlipHeaps$Search", "drawn", "(I)I"⟩, 16), (⟨"SlipHeaps$Search", "enter", "(IIIIJ)V"⟩, 16)]
theorem lw_r1 : ∀ q ∈ lw_privs_1, lw_okq q := List.forall_mem_cons.mpr ⟨lw_p0, List.forall_mem_cons.mpr ⟨lw_p1, List.forall_mem_cons.mpr ⟨lw_p2, List.forall_mem_cons.mpr ⟨lw_p3, List.forall_mem_cons.mpr ⟨lw_p4, List.forall_mem_cons.mpr ⟨lw_p5, List.forall_mem_cons.mpr ⟨lw_p6, List.forall_mem_cons.mpr ⟨lw_p7, List.forall_mem_cons.mpr ⟨lw_p8, List.forall_mem_cons.mpr ⟨lw_p9, List.forall_mem_cons.mpr ⟨lw_p10, List.forall_mem_cons.mpr ⟨lw_p11, List.forall_mem_cons.mpr ⟨lw_p12, List.forall_mem_cons.mpr ⟨lw_p13, List.forall_mem_cons.mpr ⟨lw_p14, List.forall_mem_cons.mpr ⟨lw_p15, fun _ h => absurd h List.not_mem_nil⟩⟩⟩⟩⟩⟩⟩⟩⟩⟩⟩⟩⟩⟩⟩⟩
theorem lw_p16 : lw_okq (⟨"SlipHeaps$Search", "pullTo", "(II)I"⟩, 16) := ⟨⟨by decide +kernel, by decide +kernel⟩, List.mem_of_getElem? (i := 396) (by decide +kernel), List.mem_of_getElem? (i := 698) (by decide +kernel), List.mem_of_getElem? (i := 699) (by decide +kernel)⟩
theorem lw_p17 : lw_okq (⟨"java/lang/Throwable", "fillInStackTrace", "(I)Ljava/lang/Throwable;"⟩, 6) := ⟨⟨by decide +kernel, by decide +kernel⟩, List.mem_of_getElem? (i := 802) (by decide +kernel), List.mem_of_getElem? (i := 800) (by decide +kernel), List.mem_of_getElem? (i := 801) (by decide +kernel)⟩
theorem lw_p18 : lw_okq (⟨"SlipHeaps$Pairs", "judge", "(II)V"⟩, 9) := ⟨⟨by decide +kernel, by decide +kernel⟩, List.mem_of_getElem? (i := 147) (by decide +kernel), List.mem_of_getElem? (i := 839) (by decide +kernel), List.mem_of_getElem? (i := 840) (by decide +kernel)⟩
theorem lw_p19 : lw_okq (⟨"SlipHeaps$Entries", "likeOf", "(II)I"⟩, 3) := ⟨⟨by decide +kernel, by decide +kernel⟩, List.mem_of_getElem? (i := 37) (by decide +kernel), List.mem_of_getElem? (i := 847) (by decide +kernel), List.mem_of_getElem? (i := 848) (by decide +kernel)⟩
theorem lw_p20 : lw_okq (⟨"SlipHeaps$Rules", "workLooks", "([I)Z"⟩, 12) := ⟨⟨by decide +kernel, by decide +kernel⟩, List.mem_of_getElem? (i := 64) (by decide +kernel), List.mem_of_getElem? (i := 857) (by decide +kernel), List.mem_of_getElem? (i := 858) (by decide +kernel)⟩
theorem lw_p21 : lw_okq (⟨"SlipHeaps$Rules", "applies", "(I[I)Z"⟩, 12) := ⟨⟨by decide +kernel, by decide +kernel⟩, List.mem_of_getElem? (i := 64) (by decide +kernel), List.mem_of_getElem? (i := 861) (by decide +kernel), List.mem_of_getElem? (i := 862) (by decide +kernel)⟩
theorem lw_p22 : lw_okq (⟨"SlipHeaps$Rules", "work", "(II[I)I"⟩, 12) := ⟨⟨by decide +kernel, by decide +kernel⟩, List.mem_of_getElem? (i := 64) (by decide +kernel), List.mem_of_getElem? (i := 865) (by decide +kernel), List.mem_of_getElem? (i := 866) (by decide +kernel)⟩
theorem lw_p23 : lw_okq (⟨"SlipHeaps$Rules", "workOthers", "([I)V"⟩, 12) := ⟨⟨by decide +kernel, by decide +kernel⟩, List.mem_of_getElem? (i := 64) (by decide +kernel), List.mem_of_getElem? (i := 872) (by decide +kernel), List.mem_of_getElem? (i := 873) (by decide +kernel)⟩
theorem lw_p24 : lw_okq (⟨"SlipHeaps$Pairs", "write", "(IIIIZ)V"⟩, 9) := ⟨⟨by decide +kernel, by decide +kernel⟩, List.mem_of_getElem? (i := 147) (by decide +kernel), List.mem_of_getElem? (i := 879) (by decide +kernel), List.mem_of_getElem? (i := 880) (by decide +kernel)⟩
theorem lw_p25 : lw_okq (⟨"SlipHeaps", "needEntry", "(I)V"⟩, 12) := ⟨⟨by decide +kernel, by decide +kernel⟩, List.mem_of_getElem? (i := 29) (by decide +kernel), List.mem_of_getElem? (i := 899) (by decide +kernel), List.mem_of_getElem? (i := 900) (by decide +kernel)⟩
theorem lw_p26 : lw_okq (⟨"SlipHeaps", "membersOfPart", "(I)I"⟩, 12) := ⟨⟨by decide +kernel, by decide +kernel⟩, List.mem_of_getElem? (i := 29) (by decide +kernel), List.mem_of_getElem? (i := 919) (by decide +kernel), List.mem_of_getElem? (i := 920) (by decide +kernel)⟩
theorem lw_p27 : lw_okq (⟨"SlipHeaps$Reader", "scan", "(I)V"⟩, 10) := ⟨⟨by decide +kernel, by decide +kernel⟩, List.mem_of_getElem? (i := 58) (by decide +kernel), List.mem_of_getElem? (i := 949) (by decide +kernel), List.mem_of_getElem? (i := 950) (by decide +kernel)⟩
theorem lw_p28 : lw_okq (⟨"SlipHeaps$Reader", "wordAt", "(II)I"⟩, 10) := ⟨⟨by decide +kernel, by decide +kernel⟩, List.mem_of_getElem? (i := 58) (by decide +kernel), List.mem_of_getElem? (i := 962) (by decide +kernel), List.mem_of_getElem? (i := 963) (by decide +kernel)⟩
theorem lw_p29 : lw_okq (⟨"SlipHeaps$Reader", "isSpelt", "(Ljava/lang/String;II)Z"⟩, 10) := ⟨⟨by decide +kernel, by decide +kernel⟩, List.mem_of_getElem? (i := 58) (by decide +kernel), List.mem_of_getElem? (i := 985) (by decide +kernel), List.mem_of_getElem? (i := 986) (by decide +kernel)⟩
theorem lw_p30 : lw_okq (⟨"SlipHeaps$Reader", "numberAt", "(II)I"⟩, 10) := ⟨⟨by decide +kernel, by decide +kernel⟩, List.mem_of_getElem? (i := 58) (by decide +kernel), List.mem_of_getElem? (i := 1037) (by decide +kernel), List.mem_of_getElem? (i := 1038) (by decide +kernel)⟩
theorem lw_p31 : lw_okq (⟨"SlipHeaps$Reader", "readClause", "()Z"⟩, 10) := ⟨⟨by decide +kernel, by decide +kernel⟩, List.mem_of_getElem? (i := 58) (by decide +kernel), List.mem_of_getElem? (i := 1045) (by decide +kernel), List.mem_of_getElem? (i := 1046) (by decide +kernel)⟩
def lw_privs_2 : List (MethodName × Nat) := [(⟨"SlipHeaps$Search", "pullTo", "(II)I"⟩, 16), (⟨"java/lang/Throwable", "fillInStackTrace", "(I)Ljava/lang/Throwable;"⟩, 6), (⟨"SlipHeaps$Pairs", "judge", "(II)V"⟩, 9), (⟨"SlipHeaps$Entries", "likeOf", "(II)I"⟩, 3), (⟨"SlipHeaps$Rules", "workLooks", "([I)Z"⟩, 12), (⟨"SlipHeaps$Rules", "applies", "(I[I)Z"⟩, 12), (⟨"SlipHeaps$Rules", "work", "(II[I)I"⟩, 12), (⟨"SlipHeaps$Rules", "workOthers", "([I)V"⟩, 12), (⟨"SlipHeaps$Pairs", "write", "(IIIIZ)V"⟩, 9), (⟨"SlipHeaps", "needEntry", "(I)V"⟩, 12), (⟨"SlipHeaps", "membersOfPart", "(I)I"⟩, 12), (⟨"SlipHeaps$Reader", "scan", "(I)V"⟩, 10), (⟨"SlipHeaps$Reader", "wordAt", "(II)I"⟩, 10), (⟨"SlipHeaps$Reader", "isSpelt", "(Ljava/lang/String;II)Z"⟩, 10), (⟨"SlipHeaps$Reader", "numberAt", "(II)I"⟩, 10), (⟨"SlipHeaps$Reader", "readClause", "()Z"⟩, 10)]
theorem lw_r2 : ∀ q ∈ lw_privs_2, lw_okq q := List.forall_mem_cons.mpr ⟨lw_p16, List.forall_mem_cons.mpr ⟨lw_p17, List.forall_mem_cons.mpr ⟨lw_p18, List.forall_mem_cons.mpr ⟨lw_p19, List.forall_mem_cons.mpr ⟨lw_p20, List.forall_mem_cons.mpr ⟨lw_p21, List.forall_mem_cons.mpr ⟨lw_p22, List.forall_mem_cons.mpr ⟨lw_p23, List.forall_mem_cons.mpr ⟨lw_p24, List.forall_mem_cons.mpr ⟨lw_p25, List.forall_mem_cons.mpr ⟨lw_p26, List.forall_mem_cons.mpr ⟨lw_p27, List.forall_mem_cons.mpr ⟨lw_p28, List.forall_mem_cons.mpr ⟨lw_p29, List.forall_mem_cons.mpr ⟨lw_p30, List.forall_mem_cons.mpr ⟨lw_p31, fun _ h => absurd h List.not_mem_nil⟩⟩⟩⟩⟩⟩⟩⟩⟩⟩⟩⟩⟩⟩⟩⟩
theorem lw_p32 : lw_okq (⟨"SlipHeaps$Reader", "refuse", "(I)Z"⟩, 10) := ⟨⟨by decide +kernel, by decide +kernel⟩, List.mem_of_getElem? (i := 58) (by decide +kernel), List.mem_of_getElem? (i := 1049) (by decide +kernel), List.mem_of_getElem? (i := 1050) (by decide +kernel)⟩
theorem lw_p33 : lw_okq (⟨"SlipHeaps$Reader", "advance", "()V"⟩, 10) := ⟨⟨by decide +kernel, by decide +kernel⟩, List.mem_of_getElem? (i := 58) (by decide +kernel), List.mem_of_getElem? (i := 1061) (by decide +kernel), List.mem_of_getElem? (i := 1062) (by decide +kernel)⟩
theorem lw_p34 : lw_okq (⟨"SlipHeaps$Reader", "readSum", "(I)Z"⟩, 10) := ⟨⟨by decide +kernel, by decide +kernel⟩, List.mem_of_getElem? (i := 58) (by decide +kernel), List.mem_of_getElem? (i := 1065) (by decide +kernel), List.mem_of_getElem? (i := 1066) (by decide +kernel)⟩
theorem lw_p35 : lw_okq (⟨"SlipHeaps$Reader", "readProduct", "(I)Z"⟩, 10) := ⟨⟨by decide +kernel, by decide +kernel⟩, List.mem_of_getElem? (i := 58) (by decide +kernel), List.mem_of_getElem? (i := 1069) (by decide +kernel), List.mem_of_getElem? (i := 1070) (by decide +kernel)⟩
theorem lw_p36 : lw_okq (⟨"SlipHeaps$Reader", "readUnit", "(I)Z"⟩, 10) := ⟨⟨by decide +kernel, by decide +kernel⟩, List.mem_of_getElem? (i := 58) (by decide +kernel), List.mem_of_getElem? (i := 1073) (by decide +kernel), List.mem_of_getElem? (i := 1074) (by decide +kernel)⟩
theorem lw_p37 : lw_okq (⟨"SlipHeaps$Reader", "emit", "(I)Z"⟩, 10) := ⟨⟨by decide +kernel, by decide +kernel⟩, List.mem_of_getElem? (i := 58) (by decide +kernel), List.mem_of_getElem? (i := 1077) (by decide +kernel), List.mem_of_getElem? (i := 1078) (by decide +kernel)⟩
theorem lw_p38 : lw_okq (⟨"SlipHeaps$Reader", "open", "(II)Z"⟩, 10) := ⟨⟨by decide +kernel, by decide +kernel⟩, List.mem_of_getElem? (i := 58) (by decide +kernel), List.mem_of_getElem? (i := 1085) (by decide +kernel), List.mem_of_getElem? (i := 1086) (by decide +kernel)⟩
theorem lw_p39 : lw_okq (⟨"SlipHeaps$Reader", "pass", "(I)Z"⟩, 10) := ⟨⟨by decide +kernel, by decide +kernel⟩, List.mem_of_getElem? (i := 58) (by decide +kernel), List.mem_of_getElem? (i := 1089) (by decide +kernel), List.mem_of_getElem? (i := 1090) (by decide +kernel)⟩
theorem lw_p40 : lw_okq (⟨"SlipHeaps$Reader", "readAny", "(I)Z"⟩, 10) := ⟨⟨by decide +kernel, by decide +kernel⟩, List.mem_of_getElem? (i := 58) (by decide +kernel), List.mem_of_getElem? (i := 1097) (by decide +kernel), List.mem_of_getElem? (i := 1098) (by decide +kernel)⟩
theorem lw_p41 : lw_okq (⟨"SlipHeaps$Reader", "readEach", "(I)Z"⟩, 10) := ⟨⟨by decide +kernel, by decide +kernel⟩, List.mem_of_getElem? (i := 58) (by decide +kernel), List.mem_of_getElem? (i := 1101) (by decide +kernel), List.mem_of_getElem? (i := 1102) (by decide +kernel)⟩
theorem lw_p42 : lw_okq (⟨"SlipHeaps$Reader", "readTest", "(I)Z"⟩, 10) := ⟨⟨by decide +kernel, by decide +kernel⟩, List.mem_of_getElem? (i := 58) (by decide +kernel), List.mem_of_getElem? (i := 1105) (by decide +kernel), List.mem_of_getElem? (i := 1106) (by decide +kernel)⟩
theorem lw_p43 : lw_okq (⟨"SlipHeaps$Reader", "readNot", "(I)Z"⟩, 10) := ⟨⟨by decide +kernel, by decide +kernel⟩, List.mem_of_getElem? (i := 58) (by decide +kernel), List.mem_of_getElem? (i := 1109) (by decide +kernel), List.mem_of_getElem? (i := 1110) (by decide +kernel)⟩
theorem lw_p44 : lw_okq (⟨"SlipHeaps", "needPair", "(II)V"⟩, 12) := ⟨⟨by decide +kernel, by decide +kernel⟩, List.mem_of_getElem? (i := 29) (by decide +kernel), List.mem_of_getElem? (i := 1125) (by decide +kernel), List.mem_of_getElem? (i := 1126) (by decide +kernel)⟩
theorem lw_p45 : lw_okq (⟨"SlipHeaps$Hand", "renumber", "()V"⟩, 8) := ⟨⟨by decide +kernel, by decide +kernel⟩, List.mem_of_getElem? (i := 223) (by decide +kernel), List.mem_of_getElem? (i := 1216) (by decide +kernel), List.mem_of_getElem? (i := 1217) (by decide +kernel)⟩
theorem lw_p46 : lw_okq (⟨"SlipHeaps$Changes", "measure", "()V"⟩, 11) := ⟨⟨by decide +kernel, by decide +kernel⟩, List.mem_of_getElem? (i := 258) (by decide +kernel), List.mem_of_getElem? (i := 1282) (by decide +kernel), List.mem_of_getElem? (i := 1283) (by decide +kernel)⟩
theorem lw_p47 : lw_okq (⟨"SlipHeaps$Changes", "seekGoing", "(I)V"⟩, 11) := ⟨⟨by decide +kernel, by decide +kernel⟩, List.mem_of_getElem? (i := 258) (by decide +kernel), List.mem_of_getElem? (i := 1288) (by decide +kernel), List.mem_of_getElem? (i := 1289) (by decide +kernel)⟩
def lw_privs_3 : List (MethodName × Nat) := [(⟨"SlipHeaps$Reader", "refuse", "(I)Z"⟩, 10), (⟨"SlipHeaps$Reader", "advance", "()V"⟩, 10), (⟨"SlipHeaps$Reader", "readSum", "(I)Z"⟩, 10), (⟨"SlipHeaps$Reader", "readProduct", "(I)Z"⟩, 10), (⟨"SlipHeaps$Reader", "readUnit", "(I)Z"⟩, 10), (⟨"SlipHeaps$Reader", "emit", "(I)Z"⟩, 10), (⟨"SlipHeaps$Reader", "open", "(II)Z"⟩, 10), (⟨"SlipHeaps$Reader", "pass", "(I)Z"⟩, 10), (⟨"SlipHeaps$Reader", "readAny", "(I)Z"⟩, 10), (⟨"SlipHeaps$Reader", "readEach", "(I)Z"⟩, 10), (⟨"SlipHeaps$Reader", "readTest", "(I)Z"⟩, 10), (⟨"SlipHeaps$Reader", "readNot", "(I)Z"⟩, 10), (⟨"SlipHeaps", "needPair", "(II)V"⟩, 12), (⟨"SlipHeaps$Hand", "renumber", "()V"⟩, 8), (⟨"SlipHeaps$Changes", "measure", "()V"⟩, 11), (⟨"SlipHeaps$Changes", "seekGoing", "(I)V"⟩, 11)]
theorem lw_r3 : ∀ q ∈ lw_privs_3, lw_okq q := List.forall_mem_cons.mpr ⟨lw_p32, List.forall_mem_cons.mpr ⟨lw_p33, List.forall_mem_cons.mpr ⟨lw_p34, List.forall_mem_cons.mpr ⟨lw_p35, List.forall_mem_cons.mpr ⟨lw_p36, List.forall_mem_cons.mpr ⟨lw_p37, List.forall_mem_cons.mpr ⟨lw_p38, List.forall_mem_cons.mpr ⟨lw_p39, List.forall_mem_cons.mpr ⟨lw_p40, List.forall_mem_cons.mpr ⟨lw_p41, List.forall_mem_cons.mpr ⟨lw_p42, List.forall_mem_cons.mpr ⟨lw_p43, List.forall_mem_cons.mpr ⟨lw_p44, List.forall_mem_cons.mpr ⟨lw_p45, List.forall_mem_cons.mpr ⟨lw_p46, List.forall_mem_cons.mpr ⟨lw_p47, fun _ h => absurd h List.not_mem_nil⟩⟩⟩⟩⟩⟩⟩⟩⟩⟩⟩⟩⟩⟩⟩⟩
theorem lw_p48 : lw_okq (⟨"SlipHeaps$Changes", "isHeldBack", "(I)Z"⟩, 11) := ⟨⟨by decide +kernel, by decide +kernel⟩, List.mem_of_getElem? (i := 258) (by decide +kernel), List.mem_of_getElem? (i := 1292) (by decide +kernel), List.mem_of_getElem? (i := 1293) (by decide +kernel)⟩
theorem lw_p49 : lw_okq (⟨"SlipHeaps$Changes", "pullTo", "(II)I"⟩, 11) := ⟨⟨by decide +kernel, by decide +kernel⟩, List.mem_of_getElem? (i := 258) (by decide +kernel), List.mem_of_getElem? (i := 1296) (by decide +kernel), List.mem_of_getElem? (i := 1297) (by decide +kernel)⟩
theorem lw_p50 : lw_okq (⟨"SlipHeaps$Changes", "offer", "(JIII)V"⟩, 11) := ⟨⟨by decide +kernel, by decide +kernel⟩, List.mem_of_getElem? (i := 258) (by decide +kernel), List.mem_of_getElem? (i := 1302) (by decide +kernel), List.mem_of_getElem? (i := 1303) (by decide +kernel)⟩
theorem lw_p51 : lw_okq (⟨"SlipHeaps$Changes", "seekJoining", "(II)V"⟩, 11) := ⟨⟨by decide +kernel, by decide +kernel⟩, List.mem_of_getElem? (i := 258) (by decide +kernel), List.mem_of_getElem? (i := 1306) (by decide +kernel), List.mem_of_getElem? (i := 1307) (by decide +kernel)⟩
theorem lw_p52 : lw_okq (⟨"SlipHeaps$Changes", "seekChanging", "(II)V"⟩, 11) := ⟨⟨by decide +kernel, by decide +kernel⟩, List.mem_of_getElem? (i := 258) (by decide +kernel), List.mem_of_getElem? (i := 1310) (by decide +kernel), List.mem_of_getElem? (i := 1311) (by decide +kernel)⟩
theorem lw_p53 : lw_okq (⟨"SlipHeaps", "listPartOf", "(I)I"⟩, 12) := ⟨⟨by decide +kernel, by decide +kernel⟩, List.mem_of_getElem? (i := 29) (by decide +kernel), List.mem_of_getElem? (i := 1373) (by decide +kernel), List.mem_of_getElem? (i := 1374) (by decide +kernel)⟩
theorem lw_p54 : lw_okq (⟨"SlipHeaps", "edgeOf", "(II)J"⟩, 12) := ⟨⟨by decide +kernel, by decide +kernel⟩, List.mem_of_getElem? (i := 29) (by decide +kernel), List.mem_of_getElem? (i := 1414) (by decide +kernel), List.mem_of_getElem? (i := 1415) (by decide +kernel)⟩
theorem lw_p55 : lw_okq (⟨"SlipHeaps$Search", "freeLeft", "(JJ)I"⟩, 16) := ⟨⟨by decide +kernel, by decide +kernel⟩, List.mem_of_getElem? (i := 396) (by decide +kernel), List.mem_of_getElem? (i := 1449) (by decide +kernel), List.mem_of_getElem? (i := 1450) (by decide +kernel)⟩
theorem lw_p56 : lw_okq (⟨"SlipHeaps", "nearPartOf", "(II)I"⟩, 12) := ⟨⟨by decide +kernel, by decide +kernel⟩, List.mem_of_getElem? (i := 29) (by decide +kernel), List.mem_of_getElem? (i := 1467) (by decide +kernel), List.mem_of_getElem? (i := 1468) (by decide +kernel)⟩
theorem lw_p57 : lw_okq (⟨"SlipHeaps", "maskOf", "([II)I"⟩, 12) := ⟨⟨by decide +kernel, by decide +kernel⟩, List.mem_of_getElem? (i := 29) (by decide +kernel), List.mem_of_getElem? (i := 1504) (by decide +kernel), List.mem_of_getElem? (i := 1505) (by decide +kernel)⟩
theorem lw_p58 : lw_okq (⟨"SlipHeapsModel", "may", "(ZI)Z"⟩, 91) := ⟨⟨by decide +kernel, by decide +kernel⟩, List.mem_of_getElem? (i := 1512) (by decide +kernel), List.mem_of_getElem? (i := 1800) (by decide +kernel), List.mem_of_getElem? (i := 1801) (by decide +kernel)⟩
theorem lw_p59 : lw_okq (⟨"SlipHeapsModel", "untell", "()V"⟩, 91) := ⟨⟨by decide +kernel, by decide +kernel⟩, List.mem_of_getElem? (i := 1512) (by decide +kernel), List.mem_of_getElem? (i := 1804) (by decide +kernel), List.mem_of_getElem? (i := 1805) (by decide +kernel)⟩
theorem lw_p60 : lw_okq (⟨"SlipHeapsModel", "isEntry", "(I)Z"⟩, 91) := ⟨⟨by decide +kernel, by decide +kernel⟩, List.mem_of_getElem? (i := 1512) (by decide +kernel), List.mem_of_getElem? (i := 1812) (by decide +kernel), List.mem_of_getElem? (i := 1813) (by decide +kernel)⟩
theorem lw_p61 : lw_okq (⟨"SlipHeapsModel", "everyone", "()V"⟩, 91) := ⟨⟨by decide +kernel, by decide +kernel⟩, List.mem_of_getElem? (i := 1512) (by decide +kernel), List.mem_of_getElem? (i := 1816) (by decide +kernel), List.mem_of_getElem? (i := 1817) (by decide +kernel)⟩
theorem lw_p62 : lw_okq (⟨"SlipHeapsModel", "weighs", "()V"⟩, 91) := ⟨⟨by decide +kernel, by decide +kernel⟩, List.mem_of_getElem? (i := 1512) (by decide +kernel), List.mem_of_getElem? (i := 1820) (by decide +kernel), List.mem_of_getElem? (i := 1821) (by decide +kernel)⟩
theorem lw_p63 : lw_okq (⟨"SlipHeapsModel", "weightOf", "(II)I"⟩, 91) := ⟨⟨by decide +kernel, by decide +kernel⟩, List.mem_of_getElem? (i := 1512) (by decide +kernel), List.mem_of_getElem? (i := 1824) (by decide +kernel), List.mem_of_getElem? (i := 1825) (by decide +kernel)⟩
def lw_privs_4 : List (MethodName × Nat) := [(⟨"SlipHeaps$Changes", "isHeldBack", "(I)Z"⟩, 11), (⟨"SlipHeaps$Changes", "pullTo", "(II)I"⟩, 11), (⟨"SlipHeaps$Changes", "offer", "(JIII)V"⟩, 11), (⟨"SlipHeaps$Changes", "seekJoining", "(II)V"⟩, 11), (⟨"SlipHeaps$Changes", "seekChanging", "(II)V"⟩, 11), (⟨"SlipHeaps", "listPartOf", "(I)I"⟩, 12), (⟨"SlipHeaps", "edgeOf", "(II)J"⟩, 12), (⟨"SlipHeaps$Search", "freeLeft", "(JJ)I"⟩, 16), (⟨"SlipHeaps", "nearPartOf", "(II)I"⟩, 12), (⟨"SlipHeaps", "maskOf", "([II)I"⟩, 12), (⟨"SlipHeapsModel", "may", "(ZI)Z"⟩, 91), (⟨"SlipHeapsModel", "untell", "()V"⟩, 91), (⟨"SlipHeapsModel", "isEntry", "(I)Z"⟩, 91), (⟨"SlipHeapsModel", "everyone", "()V"⟩, 91), (⟨"SlipHeapsModel", "weighs", "()V"⟩, 91), (⟨"SlipHeapsModel", "weightOf", "(II)I"⟩, 91)]
theorem lw_r4 : ∀ q ∈ lw_privs_4, lw_okq q := List.forall_mem_cons.mpr ⟨lw_p48, List.forall_mem_cons.mpr ⟨lw_p49, List.forall_mem_cons.mpr ⟨lw_p50, List.forall_mem_cons.mpr ⟨lw_p51, List.forall_mem_cons.mpr ⟨lw_p52, List.forall_mem_cons.mpr ⟨lw_p53, List.forall_mem_cons.mpr ⟨lw_p54, List.forall_mem_cons.mpr ⟨lw_p55, List.forall_mem_cons.mpr ⟨lw_p56, List.forall_mem_cons.mpr ⟨lw_p57, List.forall_mem_cons.mpr ⟨lw_p58, List.forall_mem_cons.mpr ⟨lw_p59, List.forall_mem_cons.mpr ⟨lw_p60, List.forall_mem_cons.mpr ⟨lw_p61, List.forall_mem_cons.mpr ⟨lw_p62, List.forall_mem_cons.mpr ⟨lw_p63, fun _ h => absurd h List.not_mem_nil⟩⟩⟩⟩⟩⟩⟩⟩⟩⟩⟩⟩⟩⟩⟩⟩
theorem lw_p64 : lw_okq (⟨"SlipHeapsModel", "toldAt", "(II)I"⟩, 91) := ⟨⟨by decide +kernel, by decide +kernel⟩, List.mem_of_getElem? (i := 1512) (by decide +kernel), List.mem_of_getElem? (i := 1828) (by decide +kernel), List.mem_of_getElem? (i := 1829) (by decide +kernel)⟩
theorem lw_p65 : lw_okq (⟨"SlipHeapsModel", "isPassed", "(II)Z"⟩, 91) := ⟨⟨by decide +kernel, by decide +kernel⟩, List.mem_of_getElem? (i := 1512) (by decide +kernel), List.mem_of_getElem? (i := 1832) (by decide +kernel), List.mem_of_getElem? (i := 1833) (by decide +kernel)⟩
theorem lw_p66 : lw_okq (⟨"SlipHeapsModel", "applies", "(III)Z"⟩, 91) := ⟨⟨by decide +kernel, by decide +kernel⟩, List.mem_of_getElem? (i := 1512) (by decide +kernel), List.mem_of_getElem? (i := 1836) (by decide +kernel), List.mem_of_getElem? (i := 1837) (by decide +kernel)⟩
theorem lw_p67 : lw_okq (⟨"SlipHeapsModel", "valueOf", "(IIII)I"⟩, 91) := ⟨⟨by decide +kernel, by decide +kernel⟩, List.mem_of_getElem? (i := 1512) (by decide +kernel), List.mem_of_getElem? (i := 1840) (by decide +kernel), List.mem_of_getElem? (i := 1841) (by decide +kernel)⟩
theorem lw_p68 : lw_okq (⟨"SlipHeapsModel", "asked", "(III)I"⟩, 91) := ⟨⟨by decide +kernel, by decide +kernel⟩, List.mem_of_getElem? (i := 1512) (by decide +kernel), List.mem_of_getElem? (i := 1844) (by decide +kernel), List.mem_of_getElem? (i := 1845) (by decide +kernel)⟩
theorem lw_p69 : lw_okq (⟨"SlipHeapsModel", "fixAt", "(II)I"⟩, 91) := ⟨⟨by decide +kernel, by decide +kernel⟩, List.mem_of_getElem? (i := 1512) (by decide +kernel), List.mem_of_getElem? (i := 1855) (by decide +kernel), List.mem_of_getElem? (i := 1856) (by decide +kernel)⟩
theorem lw_p70 : lw_okq (⟨"SlipHeapsModel", "findPart", "(I)V"⟩, 91) := ⟨⟨by decide +kernel, by decide +kernel⟩, List.mem_of_getElem? (i := 1512) (by decide +kernel), List.mem_of_getElem? (i := 1859) (by decide +kernel), List.mem_of_getElem? (i := 1860) (by decide +kernel)⟩
theorem lw_p71 : lw_okq (⟨"SlipHeapsModel", "hang", "(II)Z"⟩, 91) := ⟨⟨by decide +kernel, by decide +kernel⟩, List.mem_of_getElem? (i := 1512) (by decide +kernel), List.mem_of_getElem? (i := 1863) (by decide +kernel), List.mem_of_getElem? (i := 1864) (by decide +kernel)⟩
theorem lw_p72 : lw_okq (⟨"SlipHeapsModel", "fine", "()Z"⟩, 91) := ⟨⟨by decide +kernel, by decide +kernel⟩, List.mem_of_getElem? (i := 1512) (by decide +kernel), List.mem_of_getElem? (i := 1879) (by decide +kernel), List.mem_of_getElem? (i := 1880) (by decide +kernel)⟩
theorem lw_p73 : lw_okq (⟨"SlipHeapsModel", "isMore", "()Z"⟩, 91) := ⟨⟨by decide +kernel, by decide +kernel⟩, List.mem_of_getElem? (i := 1512) (by decide +kernel), List.mem_of_getElem? (i := 1883) (by decide +kernel), List.mem_of_getElem? (i := 1884) (by decide +kernel)⟩
theorem lw_p74 : lw_okq (⟨"SlipHeapsModel", "here", "()I"⟩, 91) := ⟨⟨by decide +kernel, by decide +kernel⟩, List.mem_of_getElem? (i := 1512) (by decide +kernel), List.mem_of_getElem? (i := 1887) (by decide +kernel), List.mem_of_getElem? (i := 1888) (by decide +kernel)⟩
theorem lw_p75 : lw_okq (⟨"SlipHeapsModel", "readClause", "()V"⟩, 91) := ⟨⟨by decide +kernel, by decide +kernel⟩, List.mem_of_getElem? (i := 1512) (by decide +kernel), List.mem_of_getElem? (i := 1891) (by decide +kernel), List.mem_of_getElem? (i := 1892) (by decide +kernel)⟩
theorem lw_p76 : lw_okq (⟨"SlipHeapsModel", "word", "()J"⟩, 91) := ⟨⟨by decide +kernel, by decide +kernel⟩, List.mem_of_getElem? (i := 1512) (by decide +kernel), List.mem_of_getElem? (i := 1895) (by decide +kernel), List.mem_of_getElem? (i := 1896) (by decide +kernel)⟩
theorem lw_p77 : lw_okq (⟨"SlipHeapsModel", "wrong", "(II)V"⟩, 91) := ⟨⟨by decide +kernel, by decide +kernel⟩, List.mem_of_getElem? (i := 1512) (by decide +kernel), List.mem_of_getElem? (i := 1906) (by decide +kernel), List.mem_of_getElem? (i := 1907) (by decide +kernel)⟩
theorem lw_p78 : lw_okq (⟨"SlipHeapsModel", "pass", "()V"⟩, 91) := ⟨⟨by decide +kernel, by decide +kernel⟩, List.mem_of_getElem? (i := 1512) (by decide +kernel), List.mem_of_getElem? (i := 1910) (by decide +kernel), List.mem_of_getElem? (i := 1911) (by decide +kernel)⟩
theorem lw_p79 : lw_okq (⟨"SlipHeapsModel", "sum", "()V"⟩, 91) := ⟨⟨by decide +kernel, by decide +kernel⟩, List.mem_of_getElem? (i := 1512) (by decide +kernel), List.mem_of_getElem? (i := 1914) (by decide +kernel), List.mem_of_getElem? (i := 1915) (by decide +kernel)⟩
def lw_privs_5 : List (MethodName × Nat) := [(⟨"SlipHeapsModel", "toldAt", "(II)I"⟩, 91), (⟨"SlipHeapsModel", "isPassed", "(II)Z"⟩, 91), (⟨"SlipHeapsModel", "applies", "(III)Z"⟩, 91), (⟨"SlipHeapsModel", "valueOf", "(IIII)I"⟩, 91), (⟨"SlipHeapsModel", "asked", "(III)I"⟩, 91), (⟨"SlipHeapsModel", "fixAt", "(II)I"⟩, 91), (⟨"SlipHeapsModel", "findPart", "(I)V"⟩, 91), (⟨"SlipHeapsModel", "hang", "(II)Z"⟩, 91), (⟨"SlipHeapsModel", "fine", "()Z"⟩, 91), (⟨"SlipHeapsModel", "isMore", "()Z"⟩, 91), (⟨"SlipHeapsModel", "here", "()I"⟩, 91), (⟨"SlipHeapsModel", "readClause", "()V"⟩, 91), (⟨"SlipHeapsModel", "word", "()J"⟩, 91), (⟨"SlipHeapsModel", "wrong", "(II)V"⟩, 91), (⟨"SlipHeapsModel", "pass", "()V"⟩, 91), (⟨"SlipHeapsModel", "sum", "()V"⟩, 91)]
theorem lw_r5 : ∀ q ∈ lw_privs_5, lw_okq q := List.forall_mem_cons.mpr ⟨lw_p64, List.forall_mem_cons.mpr ⟨lw_p65, List.forall_mem_cons.mpr ⟨lw_p66, List.forall_mem_cons.mpr ⟨lw_p67, List.forall_mem_cons.mpr ⟨lw_p68, List.forall_mem_cons.mpr ⟨lw_p69, List.forall_mem_cons.mpr ⟨lw_p70, List.forall_mem_cons.mpr ⟨lw_p71, List.forall_mem_cons.mpr ⟨lw_p72, List.forall_mem_cons.mpr ⟨lw_p73, List.forall_mem_cons.mpr ⟨lw_p74, List.forall_mem_cons.mpr ⟨lw_p75, List.forall_mem_cons.mpr ⟨lw_p76, List.forall_mem_cons.mpr ⟨lw_p77, List.forall_mem_cons.mpr ⟨lw_p78, List.forall_mem_cons.mpr ⟨lw_p79, fun _ h => absurd h List.not_mem_nil⟩⟩⟩⟩⟩⟩⟩⟩⟩⟩⟩⟩⟩⟩⟩⟩
theorem lw_p80 : lw_okq (⟨"SlipHeapsModel", "product", "()V"⟩, 91) := ⟨⟨by decide +kernel, by decide +kernel⟩, List.mem_of_getElem? (i := 1512) (by decide +kernel), List.mem_of_getElem? (i := 1918) (by decide +kernel), List.mem_of_getElem? (i := 1919) (by decide +kernel)⟩
theorem lw_p81 : lw_okq (⟨"SlipHeapsModel", "unit", "()V"⟩, 91) := ⟨⟨by decide +kernel, by decide +kernel⟩, List.mem_of_getElem? (i := 1512) (by decide +kernel), List.mem_of_getElem? (i := 1922) (by decide +kernel), List.mem_of_getElem? (i := 1923) (by decide +kernel)⟩
theorem lw_p82 : lw_okq (⟨"SlipHeapsModel", "readNumber", "()I"⟩, 91) := ⟨⟨by decide +kernel, by decide +kernel⟩, List.mem_of_getElem? (i := 1512) (by decide +kernel), List.mem_of_getElem? (i := 1929) (by decide +kernel), List.mem_of_getElem? (i := 1930) (by decide +kernel)⟩
theorem lw_p83 : lw_okq (⟨"SlipHeapsModel", "emit", "(II)V"⟩, 91) := ⟨⟨by decide +kernel, by decide +kernel⟩, List.mem_of_getElem? (i := 1512) (by decide +kernel), List.mem_of_getElem? (i := 1933) (by decide +kernel), List.mem_of_getElem? (i := 1934) (by decide +kernel)⟩
theorem lw_p84 : lw_okq (⟨"SlipHeapsModel", "opensAt", "(II)V"⟩, 91) := ⟨⟨by decide +kernel, by decide +kernel⟩, List.mem_of_getElem? (i := 1512) (by decide +kernel), List.mem_of_getElem? (i := 1937) (by decide +kernel), List.mem_of_getElem? (i := 1938) (by decide +kernel)⟩
theorem lw_p85 : lw_okq (⟨"SlipHeapsModel", "closesAt", "(I)V"⟩, 91) := ⟨⟨by decide +kernel, by decide +kernel⟩, List.mem_of_getElem? (i := 1512) (by decide +kernel), List.mem_of_getElem? (i := 1941) (by decide +kernel), List.mem_of_getElem? (i := 1942) (by decide +kernel)⟩
theorem lw_p86 : lw_okq (⟨"SlipHeapsModel", "need", "(I)V"⟩, 91) := ⟨⟨by decide +kernel, by decide +kernel⟩, List.mem_of_getElem? (i := 1512) (by decide +kernel), List.mem_of_getElem? (i := 1945) (by decide +kernel), List.mem_of_getElem? (i := 1946) (by decide +kernel)⟩
theorem lw_p87 : lw_okq (⟨"SlipHeapsModel", "anyOf", "()V"⟩, 91) := ⟨⟨by decide +kernel, by decide +kernel⟩, List.mem_of_getElem? (i := 1512) (by decide +kernel), List.mem_of_getElem? (i := 1961) (by decide +kernel), List.mem_of_getElem? (i := 1962) (by decide +kernel)⟩
theorem lw_p88 : lw_okq (⟨"SlipHeapsModel", "allOf", "()V"⟩, 91) := ⟨⟨by decide +kernel, by decide +kernel⟩, List.mem_of_getElem? (i := 1512) (by decide +kernel), List.mem_of_getElem? (i := 1965) (by decide +kernel), List.mem_of_getElem? (i := 1966) (by decide +kernel)⟩
theorem lw_p89 : lw_okq (⟨"SlipHeapsModel", "term", "()V"⟩, 91) := ⟨⟨by decide +kernel, by decide +kernel⟩, List.mem_of_getElem? (i := 1512) (by decide +kernel), List.mem_of_getElem? (i := 1969) (by decide +kernel), List.mem_of_getElem? (i := 1970) (by decide +kernel)⟩
theorem lw_p90 : lw_okq (⟨"SlipHeapsModel", "isPair", "(II)Z"⟩, 91) := ⟨⟨by decide +kernel, by decide +kernel⟩, List.mem_of_getElem? (i := 1512) (by decide +kernel), List.mem_of_getElem? (i := 1984) (by decide +kernel), List.mem_of_getElem? (i := 1985) (by decide +kernel)⟩
theorem lw_p91 : lw_okq (⟨"SlipHeapsModel", "number", "([I)V"⟩, 91) := ⟨⟨by decide +kernel, by decide +kernel⟩, List.mem_of_getElem? (i := 1512) (by decide +kernel), List.mem_of_getElem? (i := 2016) (by decide +kernel), List.mem_of_getElem? (i := 2017) (by decide +kernel)⟩
theorem lw_p92 : lw_okq (⟨"SlipHeapsModel", "sizeOf", "(I)I"⟩, 91) := ⟨⟨by decide +kernel, by decide +kernel⟩, List.mem_of_getElem? (i := 1512) (by decide +kernel), List.mem_of_getElem? (i := 2024) (by decide +kernel), List.mem_of_getElem? (i := 2025) (by decide +kernel)⟩
theorem lw_p93 : lw_okq (⟨"SlipHeapsModel", "joins", "([III)V"⟩, 91) := ⟨⟨by decide +kernel, by decide +kernel⟩, List.mem_of_getElem? (i := 1512) (by decide +kernel), List.mem_of_getElem? (i := 2035) (by decide +kernel), List.mem_of_getElem? (i := 2036) (by decide +kernel)⟩
theorem lw_p94 : lw_okq (⟨"SlipHeapsModel", "costOf", "([I)J"⟩, 91) := ⟨⟨by decide +kernel, by decide +kernel⟩, List.mem_of_getElem? (i := 1512) (by decide +kernel), List.mem_of_getElem? (i := 2047) (by decide +kernel), List.mem_of_getElem? (i := 2048) (by decide +kernel)⟩
theorem lw_p95 : lw_okq (⟨"SlipHeapsModel", "barredIn", "([I)I"⟩, 91) := ⟨⟨by decide +kernel, by decide +kernel⟩, List.mem_of_getElem? (i := 1512) (by decide +kernel), List.mem_of_getElem? (i := 2055) (by decide +kernel), List.mem_of_getElem? (i := 2056) (by decide +kernel)⟩
def lw_privs_6 : List (MethodName × Nat) := [(⟨"SlipHeapsModel", "product", "()V"⟩, 91), (⟨"SlipHeapsModel", "unit", "()V"⟩, 91), (⟨"SlipHeapsModel", "readNumber", "()I"⟩, 91), (⟨"SlipHeapsModel", "emit", "(II)V"⟩, 91), (⟨"SlipHeapsModel", "opensAt", "(II)V"⟩, 91), (⟨"SlipHeapsModel", "closesAt", "(I)V"⟩, 91), (⟨"SlipHeapsModel", "need", "(I)V"⟩, 91), (⟨"SlipHeapsModel", "anyOf", "()V"⟩, 91), (⟨"SlipHeapsModel", "allOf", "()V"⟩, 91), (⟨"SlipHeapsModel", "term", "()V"⟩, 91), (⟨"SlipHeapsModel", "isPair", "(II)Z"⟩, 91), (⟨"SlipHeapsModel", "number", "([I)V"⟩, 91), (⟨"SlipHeapsModel", "sizeOf", "(I)I"⟩, 91), (⟨"SlipHeapsModel", "joins", "([III)V"⟩, 91), (⟨"SlipHeapsModel", "costOf", "([I)J"⟩, 91), (⟨"SlipHeapsModel", "barredIn", "([I)I"⟩, 91)]
theorem lw_r6 : ∀ q ∈ lw_privs_6, lw_okq q := List.forall_mem_cons.mpr ⟨lw_p80, List.forall_mem_cons.mpr ⟨lw_p81, List.forall_mem_cons.mpr ⟨lw_p82, List.forall_mem_cons.mpr ⟨lw_p83, List.forall_mem_cons.mpr ⟨lw_p84, List.forall_mem_cons.mpr ⟨lw_p85, List.forall_mem_cons.mpr ⟨lw_p86, List.forall_mem_cons.mpr ⟨lw_p87, List.forall_mem_cons.mpr ⟨lw_p88, List.forall_mem_cons.mpr ⟨lw_p89, List.forall_mem_cons.mpr ⟨lw_p90, List.forall_mem_cons.mpr ⟨lw_p91, List.forall_mem_cons.mpr ⟨lw_p92, List.forall_mem_cons.mpr ⟨lw_p93, List.forall_mem_cons.mpr ⟨lw_p94, List.forall_mem_cons.mpr ⟨lw_p95, fun _ h => absurd h List.not_mem_nil⟩⟩⟩⟩⟩⟩⟩⟩⟩⟩⟩⟩⟩⟩⟩⟩
theorem lw_p96 : lw_okq (⟨"SlipHeapsModel", "findBetter", "()Z"⟩, 91) := ⟨⟨by decide +kernel, by decide +kernel⟩, List.mem_of_getElem? (i := 1512) (by decide +kernel), List.mem_of_getElem? (i := 2063) (by decide +kernel), List.mem_of_getElem? (i := 2064) (by decide +kernel)⟩
theorem lw_p97 : lw_okq (⟨"SlipHeapsModel", "copyHand", "([I)V"⟩, 91) := ⟨⟨by decide +kernel, by decide +kernel⟩, List.mem_of_getElem? (i := 1512) (by decide +kernel), List.mem_of_getElem? (i := 2067) (by decide +kernel), List.mem_of_getElem? (i := 2068) (by decide +kernel)⟩
theorem lw_p98 : lw_okq (⟨"SlipHeapsModel", "tries", "(III)V"⟩, 91) := ⟨⟨by decide +kernel, by decide +kernel⟩, List.mem_of_getElem? (i := 1512) (by decide +kernel), List.mem_of_getElem? (i := 2071) (by decide +kernel), List.mem_of_getElem? (i := 2072) (by decide +kernel)⟩
theorem lw_p99 : lw_okq (⟨"SlipHeapsModel", "takes", "([I)V"⟩, 91) := ⟨⟨by decide +kernel, by decide +kernel⟩, List.mem_of_getElem? (i := 1512) (by decide +kernel), List.mem_of_getElem? (i := 2080) (by decide +kernel), List.mem_of_getElem? (i := 2081) (by decide +kernel)⟩
theorem lw_p100 : lw_okq (⟨"SlipHeapsModel", "packs", "(I)J"⟩, 91) := ⟨⟨by decide +kernel, by decide +kernel⟩, List.mem_of_getElem? (i := 1512) (by decide +kernel), List.mem_of_getElem? (i := 2088) (by decide +kernel), List.mem_of_getElem? (i := 2089) (by decide +kernel)⟩
theorem lw_p101 : lw_okq (⟨"SlipHeapsModel", "setRests", "([I)V"⟩, 91) := ⟨⟨by decide +kernel, by decide +kernel⟩, List.mem_of_getElem? (i := 1512) (by decide +kernel), List.mem_of_getElem? (i := 2092) (by decide +kernel), List.mem_of_getElem? (i := 2093) (by decide +kernel)⟩
theorem lw_p102 : lw_okq (⟨"SlipHeapsModel", "isRing", "(III)Z"⟩, 91) := ⟨⟨by decide +kernel, by decide +kernel⟩, List.mem_of_getElem? (i := 1512) (by decide +kernel), List.mem_of_getElem? (i := 2097) (by decide +kernel), List.mem_of_getElem? (i := 2098) (by decide +kernel)⟩
theorem lw_p103 : lw_okq (⟨"SlipHeapsModel", "isAbove", "(II)Z"⟩, 91) := ⟨⟨by decide +kernel, by decide +kernel⟩, List.mem_of_getElem? (i := 1512) (by decide +kernel), List.mem_of_getElem? (i := 2101) (by decide +kernel), List.mem_of_getElem? (i := 2102) (by decide +kernel)⟩
theorem lw_p104 : lw_okq (⟨"SlipHeapsModel", "isBelow", "(II)Z"⟩, 91) := ⟨⟨by decide +kernel, by decide +kernel⟩, List.mem_of_getElem? (i := 1512) (by decide +kernel), List.mem_of_getElem? (i := 2105) (by decide +kernel), List.mem_of_getElem? (i := 2106) (by decide +kernel)⟩
theorem lw_p105 : lw_okq (⟨"SlipHeapsModel", "leastRest", "([IIII)I"⟩, 91) := ⟨⟨by decide +kernel, by decide +kernel⟩, List.mem_of_getElem? (i := 1512) (by decide +kernel), List.mem_of_getElem? (i := 2109) (by decide +kernel), List.mem_of_getElem? (i := 2110) (by decide +kernel)⟩
theorem lw_p106 : lw_okq (⟨"SlipHeapsModel", "takesRest", "([IIIII)V"⟩, 91) := ⟨⟨by decide +kernel, by decide +kernel⟩, List.mem_of_getElem? (i := 1512) (by decide +kernel), List.mem_of_getElem? (i := 2113) (by decide +kernel), List.mem_of_getElem? (i := 2114) (by decide +kernel)⟩
theorem lw_p107 : lw_okq (⟨"SlipHeapsModel", "partOf", "(I)I"⟩, 91) := ⟨⟨by decide +kernel, by decide +kernel⟩, List.mem_of_getElem? (i := 1512) (by decide +kernel), List.mem_of_getElem? (i := 2136) (by decide +kernel), List.mem_of_getElem? (i := 2137) (by decide +kernel)⟩
theorem lw_p108 : lw_okq (⟨"SlipHeapsModel", "bests", "()I"⟩, 91) := ⟨⟨by decide +kernel, by decide +kernel⟩, List.mem_of_getElem? (i := 1512) (by decide +kernel), List.mem_of_getElem? (i := 2140) (by decide +kernel), List.mem_of_getElem? (i := 2141) (by decide +kernel)⟩
theorem lw_p109 : lw_okq (⟨"SlipHeapsModel", "walks", "(I)V"⟩, 91) := ⟨⟨by decide +kernel, by decide +kernel⟩, List.mem_of_getElem? (i := 1512) (by decide +kernel), List.mem_of_getElem? (i := 2144) (by decide +kernel), List.mem_of_getElem? (i := 2145) (by decide +kernel)⟩
theorem lw_p110 : lw_okq (⟨"SlipHeapsModel", "walk", "(IJ)V"⟩, 91) := ⟨⟨by decide +kernel, by decide +kernel⟩, List.mem_of_getElem? (i := 1512) (by decide +kernel), List.mem_of_getElem? (i := 2148) (by decide +kernel), List.mem_of_getElem? (i := 2149) (by decide +kernel)⟩
theorem lw_p111 : lw_okq (⟨"SlipHeapsModel", "isTooDear", "(J)Z"⟩, 91) := ⟨⟨by decide +kernel, by decide +kernel⟩, List.mem_of_getElem? (i := 1512) (by decide +kernel), List.mem_of_getElem? (i := 2152) (by decide +kernel), List.mem_of_getElem? (i := 2153) (by decide +kernel)⟩
def lw_privs_7 : List (MethodName × Nat) := [(⟨"SlipHeapsModel", "findBetter", "()Z"⟩, 91), (⟨"SlipHeapsModel", "copyHand", "([I)V"⟩, 91), (⟨"SlipHeapsModel", "tries", "(III)V"⟩, 91), (⟨"SlipHeapsModel", "takes", "([I)V"⟩, 91), (⟨"SlipHeapsModel", "packs", "(I)J"⟩, 91), (⟨"SlipHeapsModel", "setRests", "([I)V"⟩, 91), (⟨"SlipHeapsModel", "isRing", "(III)Z"⟩, 91), (⟨"SlipHeapsModel", "isAbove", "(II)Z"⟩, 91), (⟨"SlipHeapsModel", "isBelow", "(II)Z"⟩, 91), (⟨"SlipHeapsModel", "leastRest", "([IIII)I"⟩, 91), (⟨"SlipHeapsModel", "takesRest", "([IIIII)V"⟩, 91), (⟨"SlipHeapsModel", "partOf", "(I)I"⟩, 91), (⟨"SlipHeapsModel", "bests", "()I"⟩, 91), (⟨"SlipHeapsModel", "walks", "(I)V"⟩, 91), (⟨"SlipHeapsModel", "walk", "(IJ)V"⟩, 91), (⟨"SlipHeapsModel", "isTooDear", "(J)Z"⟩, 91)]
theorem lw_r7 : ∀ q ∈ lw_privs_7, lw_okq q := List.forall_mem_cons.mpr ⟨lw_p96, List.forall_mem_cons.mpr ⟨lw_p97, List.forall_mem_cons.mpr ⟨lw_p98, List.forall_mem_cons.mpr ⟨lw_p99, List.forall_mem_cons.mpr ⟨lw_p100, List.forall_mem_cons.mpr ⟨lw_p101, List.forall_mem_cons.mpr ⟨lw_p102, List.forall_mem_cons.mpr ⟨lw_p103, List.forall_mem_cons.mpr ⟨lw_p104, List.forall_mem_cons.mpr ⟨lw_p105, List.forall_mem_cons.mpr ⟨lw_p106, List.forall_mem_cons.mpr ⟨lw_p107, List.forall_mem_cons.mpr ⟨lw_p108, List.forall_mem_cons.mpr ⟨lw_p109, List.forall_mem_cons.mpr ⟨lw_p110, List.forall_mem_cons.mpr ⟨lw_p111, fun _ h => absurd h List.not_mem_nil⟩⟩⟩⟩⟩⟩⟩⟩⟩⟩⟩⟩⟩⟩⟩⟩
theorem lw_p112 : lw_okq (⟨"SlipHeapsModel", "leaf", "(J)V"⟩, 91) := ⟨⟨by decide +kernel, by decide +kernel⟩, List.mem_of_getElem? (i := 1512) (by decide +kernel), List.mem_of_getElem? (i := 2156) (by decide +kernel), List.mem_of_getElem? (i := 2157) (by decide +kernel)⟩
theorem lw_p113 : lw_okq (⟨"SlipHeapsModel", "maskNow", "()J"⟩, 91) := ⟨⟨by decide +kernel, by decide +kernel⟩, List.mem_of_getElem? (i := 1512) (by decide +kernel), List.mem_of_getElem? (i := 2160) (by decide +kernel), List.mem_of_getElem? (i := 2161) (by decide +kernel)⟩
theorem lw_p114 : lw_okq (⟨"SlipHeapsModel", "mayCome", "(II)Z"⟩, 91) := ⟨⟨by decide +kernel, by decide +kernel⟩, List.mem_of_getElem? (i := 1512) (by decide +kernel), List.mem_of_getElem? (i := 2167) (by decide +kernel), List.mem_of_getElem? (i := 2168) (by decide +kernel)⟩
theorem lw_p115 : lw_okq (⟨"SlipHeapsModel", "adds", "(II)J"⟩, 91) := ⟨⟨by decide +kernel, by decide +kernel⟩, List.mem_of_getElem? (i := 1512) (by decide +kernel), List.mem_of_getElem? (i := 2171) (by decide +kernel), List.mem_of_getElem? (i := 2172) (by decide +kernel)⟩
theorem lw_p116 : lw_okq (⟨"SlipHeapsModel", "place", "(I)I"⟩, 91) := ⟨⟨by decide +kernel, by decide +kernel⟩, List.mem_of_getElem? (i := 1512) (by decide +kernel), List.mem_of_getElem? (i := 2183) (by decide +kernel), List.mem_of_getElem? (i := 2184) (by decide +kernel)⟩
theorem lw_p117 : lw_okq (⟨"SlipHeapsModel", "heapNumber", "([II)I"⟩, 91) := ⟨⟨by decide +kernel, by decide +kernel⟩, List.mem_of_getElem? (i := 1512) (by decide +kernel), List.mem_of_getElem? (i := 2187) (by decide +kernel), List.mem_of_getElem? (i := 2188) (by decide +kernel)⟩
theorem lw_p118 : lw_okq (⟨"SlipHeapsModel", "findAll", "([I)J"⟩, 91) := ⟨⟨by decide +kernel, by decide +kernel⟩, List.mem_of_getElem? (i := 1512) (by decide +kernel), List.mem_of_getElem? (i := 2195) (by decide +kernel), List.mem_of_getElem? (i := 2196) (by decide +kernel)⟩
theorem lw_p119 : lw_okq (⟨"SlipHeapsModel", "areOfOne", "(II)Z"⟩, 91) := ⟨⟨by decide +kernel, by decide +kernel⟩, List.mem_of_getElem? (i := 1512) (by decide +kernel), List.mem_of_getElem? (i := 2207) (by decide +kernel), List.mem_of_getElem? (i := 2208) (by decide +kernel)⟩
theorem lw_p120 : lw_okq (⟨"SlipHeapsModel", "edgeOf", "(II)J"⟩, 91) := ⟨⟨by decide +kernel, by decide +kernel⟩, List.mem_of_getElem? (i := 1512) (by decide +kernel), List.mem_of_getElem? (i := 2215) (by decide +kernel), List.mem_of_getElem? (i := 2216) (by decide +kernel)⟩
theorem lw_p121 : lw_okq (⟨"SlipHeapsModel", "freeIn", "(IJ)I"⟩, 91) := ⟨⟨by decide +kernel, by decide +kernel⟩, List.mem_of_getElem? (i := 1512) (by decide +kernel), List.mem_of_getElem? (i := 2229) (by decide +kernel), List.mem_of_getElem? (i := 2230) (by decide +kernel)⟩
theorem lw_p122 : lw_okq (⟨"SlipHeapsModel", "findNear", "(II)I"⟩, 91) := ⟨⟨by decide +kernel, by decide +kernel⟩, List.mem_of_getElem? (i := 1512) (by decide +kernel), List.mem_of_getElem? (i := 2241) (by decide +kernel), List.mem_of_getElem? (i := 2242) (by decide +kernel)⟩
theorem lw_p123 : lw_okq (⟨"SlipHeapsModel", "findWithout", "(I[I)J"⟩, 91) := ⟨⟨by decide +kernel, by decide +kernel⟩, List.mem_of_getElem? (i := 1512) (by decide +kernel), List.mem_of_getElem? (i := 2253) (by decide +kernel), List.mem_of_getElem? (i := 2254) (by decide +kernel)⟩
theorem lw_p124 : lw_okq (⟨"SlipHeapsModel", "isHeap", "(II)Z"⟩, 91) := ⟨⟨by decide +kernel, by decide +kernel⟩, List.mem_of_getElem? (i := 1512) (by decide +kernel), List.mem_of_getElem? (i := 2261) (by decide +kernel), List.mem_of_getElem? (i := 2262) (by decide +kernel)⟩
def lw_privs_8 : List (MethodName × Nat) := [(⟨"SlipHeapsModel", "leaf", "(J)V"⟩, 91), (⟨"SlipHeapsModel", "maskNow", "()J"⟩, 91), (⟨"SlipHeapsModel", "mayCome", "(II)Z"⟩, 91), (⟨"SlipHeapsModel", "adds", "(II)J"⟩, 91), (⟨"SlipHeapsModel", "place", "(I)I"⟩, 91), (⟨"SlipHeapsModel", "heapNumber", "([II)I"⟩, 91), (⟨"SlipHeapsModel", "findAll", "([I)J"⟩, 91), (⟨"SlipHeapsModel", "areOfOne", "(II)Z"⟩, 91), (⟨"SlipHeapsModel", "edgeOf", "(II)J"⟩, 91), (⟨"SlipHeapsModel", "freeIn", "(IJ)I"⟩, 91), (⟨"SlipHeapsModel", "findNear", "(II)I"⟩, 91), (⟨"SlipHeapsModel", "findWithout", "(I[I)J"⟩, 91), (⟨"SlipHeapsModel", "isHeap", "(II)Z"⟩, 91)]
theorem lw_r8 : ∀ q ∈ lw_privs_8, lw_okq q := List.forall_mem_cons.mpr ⟨lw_p112, List.forall_mem_cons.mpr ⟨lw_p113, List.forall_mem_cons.mpr ⟨lw_p114, List.forall_mem_cons.mpr ⟨lw_p115, List.forall_mem_cons.mpr ⟨lw_p116, List.forall_mem_cons.mpr ⟨lw_p117, List.forall_mem_cons.mpr ⟨lw_p118, List.forall_mem_cons.mpr ⟨lw_p119, List.forall_mem_cons.mpr ⟨lw_p120, List.forall_mem_cons.mpr ⟨lw_p121, List.forall_mem_cons.mpr ⟨lw_p122, List.forall_mem_cons.mpr ⟨lw_p123, List.forall_mem_cons.mpr ⟨lw_p124, fun _ h => absurd h List.not_mem_nil⟩⟩⟩⟩⟩⟩⟩⟩⟩⟩⟩⟩⟩
def lw_privs : List (MethodName × Nat) := lw_privs_1 ++ (lw_privs_2 ++ (lw_privs_3 ++ (lw_privs_4 ++ (lw_privs_5 ++ (lw_privs_6 ++ (lw_privs_7 ++ (lw_privs_8)))))))
def lw_tbl : List Cond := k2_sels lw_privs ++ tables_1
theorem lw_privs_ok : ∀ q ∈ lw_privs, lw_okq q := by
  show ∀ q ∈ lw_privs_1 ++ (lw_privs_2 ++ (lw_privs_3 ++ (lw_privs_4 ++ (lw_privs_5 ++ (lw_privs_6 ++ (lw_privs_7 ++ (lw_privs_8))))))), lw_okq q
  exact List.forall_mem_append.mpr ⟨lw_r1, List.forall_mem_append.mpr ⟨lw_r2, List.forall_mem_append.mpr ⟨lw_r3, List.forall_mem_append.mpr ⟨lw_r4, List.forall_mem_append.mpr ⟨lw_r5, List.forall_mem_append.mpr ⟨lw_r6, List.forall_mem_append.mpr ⟨lw_r7, lw_r8⟩⟩⟩⟩⟩⟩⟩
/-! names (as the claim prints them), the words by their places, classes, the layout of the world -/
def RX0 : String := "SlipHeaps$Changes"
def TX0 : u_T := fun k => match k with
  | 0 => ("SlipHeaps$Changes", "sort", "I", false)
  | 1 => ("SlipHeaps$Changes", "one", "I", false)
  | 2 => ("SlipHeaps$Changes", "two", "I", false)
  | 3 => ("SlipHeaps$Changes", "leastCost", "J", false)
  | 4 => ("SlipHeaps$Changes", "hand", "LSlipHeaps$Hand;", true)
  | 5 => ("SlipHeaps$Changes", "pairs", "LSlipHeaps$Pairs;", true)
  | 6 => ("SlipHeaps$Changes", "laws", "LSlipHeaps$Laws;", true)
  | 7 => ("SlipHeaps$Changes", "startCost", "J", false)
  | 8 => ("SlipHeaps$Changes", "parted", "[I", true)
  | 9 => ("SlipHeaps$Changes", "masks", "[I", true)
  | _ => ("SlipHeaps$Changes", "pullsToHeap", "[I", true)
def tyX0 : Nat → FieldType := fun k => match k with
  | 0 => .int
  | 1 => .int
  | 2 => .int
  | 3 => .long
  | 4 => .object "SlipHeaps$Hand"
  | 5 => .object "SlipHeaps$Pairs"
  | 6 => .object "SlipHeaps$Laws"
  | 7 => .long
  | 8 => .array .int
  | 9 => .array .int
  | _ => .array .int
theorem nmX0 : ∀ a, a < 11 → ∀ b, b < 11 → a ≠ b → (TX0 a).2.1 ≠ (TX0 b).2.1 := by decide +kernel
theorem tyX0_ok : ∀ k, k < 11 → parseFieldDescriptor (TX0 k).2.2.1 = some (tyX0 k) := by decide +kernel
abbrev cX0_init : ByteArray := prog_2_method_1_code
def yX0_init : MethodName := ⟨RX0, "<init>", "(LSlipHeaps$Hand;LSlipHeaps$Pairs;LSlipHeaps$Laws;)V"⟩
abbrev cX0_prepare : ByteArray := prog_2_method_2_code
def yX0_prepare : MethodName := ⟨RX0, "prepare", "()V"⟩
abbrev cX0_seek : ByteArray := prog_2_method_3_code
def yX0_seek : MethodName := ⟨RX0, "seek", "()V"⟩
abbrev cX0_make : ByteArray := prog_2_method_4_code
def yX0_make : MethodName := ⟨RX0, "make", "()V"⟩
abbrev cX0_measure : ByteArray := prog_2_method_5_code
def yX0_measure : MethodName := ⟨RX0, "measure", "()V"⟩
abbrev cX0_pullTo : ByteArray := prog_2_method_6_code
def yX0_pullTo : MethodName := ⟨RX0, "pullTo", "(II)I"⟩
abbrev cX0_offer : ByteArray := prog_2_method_7_code
def yX0_offer : MethodName := ⟨RX0, "offer", "(JIII)V"⟩
abbrev cX0_isHeldBack : ByteArray := prog_2_method_8_code
def yX0_isHeldBack : MethodName := ⟨RX0, "isHeldBack", "(I)Z"⟩
abbrev cX0_seekGoing : ByteArray := prog_2_method_9_code
def yX0_seekGoing : MethodName := ⟨RX0, "seekGoing", "(I)V"⟩
abbrev cX0_seekJoining : ByteArray := prog_2_method_10_code
def yX0_seekJoining : MethodName := ⟨RX0, "seekJoining", "(II)V"⟩
abbrev cX0_seekChanging : ByteArray := prog_2_method_11_code
def yX0_seekChanging : MethodName := ⟨RX0, "seekChanging", "(II)V"⟩
def RX1 : String := "SlipHeaps$Entries"
def TX1 : u_T := fun k => match k with
  | 0 => ("SlipHeaps$Entries", "size", "I", false)
  | 1 => ("SlipHeaps$Entries", "traits", "[I", true)
  | _ => ("SlipHeaps$Entries", "likeness", "[I", true)
def tyX1 : Nat → FieldType := fun k => match k with
  | 0 => .int
  | 1 => .array .int
  | _ => .array .int
theorem nmX1 : ∀ a, a < 3 → ∀ b, b < 3 → a ≠ b → (TX1 a).2.1 ≠ (TX1 b).2.1 := by decide +kernel
theorem tyX1_ok : ∀ k, k < 3 → parseFieldDescriptor (TX1 k).2.2.1 = some (tyX1 k) := by decide +kernel
abbrev cX1_init : ByteArray := prog_3_method_1_code
def yX1_init : MethodName := ⟨RX1, "<init>", "()V"⟩
abbrev cX1_add : ByteArray := prog_3_method_2_code
def yX1_add : MethodName := ⟨RX1, "add", "(IIIII)I"⟩
abbrev cX1_trait : ByteArray := prog_3_method_3_code
def yX1_trait : MethodName := ⟨RX1, "trait", "(II)I"⟩
abbrev cX1_setLikeness : ByteArray := prog_3_method_4_code
def yX1_setLikeness : MethodName := ⟨RX1, "setLikeness", "(III)I"⟩
abbrev cX1_everyone : ByteArray := prog_3_method_5_code
def yX1_everyone : MethodName := ⟨RX1, "everyone", "()I"⟩
abbrev cX1_notOfBook : ByteArray := prog_3_method_6_code
def yX1_notOfBook : MethodName := ⟨RX1, "notOfBook", "(I)I"⟩
abbrev cX1_yearsBetween : ByteArray := prog_3_method_7_code
def yX1_yearsBetween : MethodName := ⟨RX1, "yearsBetween", "(II)I"⟩
abbrev cX1_sameBook : ByteArray := prog_3_method_8_code
def yX1_sameBook : MethodName := ⟨RX1, "sameBook", "(II)Z"⟩
abbrev cX1_likeOf : ByteArray := prog_3_method_9_code
def yX1_likeOf : MethodName := ⟨RX1, "likeOf", "(II)I"⟩
abbrev cX1_compare : ByteArray := prog_3_method_10_code
def yX1_compare : MethodName := ⟨RX1, "compare", "(II[I)V"⟩
def RX2 : String := "SlipHeaps$Hand"
def TX2 : u_T := fun k => match k with
  | 0 => ("SlipHeaps$Hand", "heap", "[I", true)
  | 1 => ("SlipHeaps$Hand", "size", "I", false)
  | 2 => ("SlipHeaps$Hand", "marks", "I", false)
  | 3 => ("SlipHeaps$Hand", "pairs", "LSlipHeaps$Pairs;", true)
  | 4 => ("SlipHeaps$Hand", "laws", "LSlipHeaps$Laws;", true)
  | 5 => ("SlipHeaps$Hand", "leasts", "[I", true)
  | 6 => ("SlipHeaps$Hand", "kept", "[I", true)
  | _ => ("SlipHeaps$Hand", "keptSizes", "[I", true)
def tyX2 : Nat → FieldType := fun k => match k with
  | 0 => .array .int
  | 1 => .int
  | 2 => .int
  | 3 => .object "SlipHeaps$Pairs"
  | 4 => .object "SlipHeaps$Laws"
  | 5 => .array .int
  | 6 => .array .int
  | _ => .array .int
theorem nmX2 : ∀ a, a < 8 → ∀ b, b < 8 → a ≠ b → (TX2 a).2.1 ≠ (TX2 b).2.1 := by decide +kernel
theorem tyX2_ok : ∀ k, k < 8 → parseFieldDescriptor (TX2 k).2.2.1 = some (tyX2 k) := by decide +kernel
abbrev cX2_init : ByteArray := prog_4_method_1_code
def yX2_init : MethodName := ⟨RX2, "<init>", "(LSlipHeaps$Pairs;LSlipHeaps$Laws;)V"⟩
abbrev cX2_welcome : ByteArray := prog_4_method_2_code
def yX2_welcome : MethodName := ⟨RX2, "welcome", "()V"⟩
abbrev cX2_renumber : ByteArray := prog_4_method_3_code
def yX2_renumber : MethodName := ⟨RX2, "renumber", "()V"⟩
abbrev cX2_isAlone : ByteArray := prog_4_method_4_code
def yX2_isAlone : MethodName := ⟨RX2, "isAlone", "(I)Z"⟩
abbrev cX2_maskOfHeap : ByteArray := prog_4_method_5_code
def yX2_maskOfHeap : MethodName := ⟨RX2, "maskOfHeap", "(I)I"⟩
abbrev cX2_moveTo : ByteArray := prog_4_method_6_code
def yX2_moveTo : MethodName := ⟨RX2, "moveTo", "(II)V"⟩
abbrev cX2_moveOut : ByteArray := prog_4_method_7_code
def yX2_moveOut : MethodName := ⟨RX2, "moveOut", "(I)V"⟩
abbrev cX2_unite : ByteArray := prog_4_method_8_code
def yX2_unite : MethodName := ⟨RX2, "unite", "(II)V"⟩
abbrev cX2_exchange : ByteArray := prog_4_method_9_code
def yX2_exchange : MethodName := ⟨RX2, "exchange", "(II)V"⟩
abbrev cX2_become : ByteArray := prog_4_method_10_code
def yX2_become : MethodName := ⟨RX2, "become", "([I)V"⟩
abbrev cX2_heapCount : ByteArray := prog_4_method_11_code
def yX2_heapCount : MethodName := ⟨RX2, "heapCount", "()I"⟩
abbrev cX2_price : ByteArray := prog_4_method_12_code
def yX2_price : MethodName := ⟨RX2, "price", "()J"⟩
abbrev cX2_offender : ByteArray := prog_4_method_13_code
def yX2_offender : MethodName := ⟨RX2, "offender", "()I"⟩
abbrev cX2_offends : ByteArray := prog_4_method_14_code
def yX2_offends : MethodName := ⟨RX2, "offends", "(I)Z"⟩
abbrev cX2_keep : ByteArray := prog_4_method_15_code
def yX2_keep : MethodName := ⟨RX2, "keep", "()Z"⟩
abbrev cX2_restore : ByteArray := prog_4_method_16_code
def yX2_restore : MethodName := ⟨RX2, "restore", "()Z"⟩
def RX3 : String := "SlipHeaps$Laws"
def TX3 : u_T := fun k => match k with
  | 0 => ("SlipHeaps$Laws", "togetherRows", "[I", true)
  | 1 => ("SlipHeaps$Laws", "apartRows", "[I", true)
  | 2 => ("SlipHeaps$Laws", "fixedCount", "I", false)
  | 3 => ("SlipHeaps$Laws", "entries", "LSlipHeaps$Entries;", true)
  | 4 => ("SlipHeaps$Laws", "pairs", "LSlipHeaps$Pairs;", true)
  | 5 => ("SlipHeaps$Laws", "most", "I", false)
  | 6 => ("SlipHeaps$Laws", "oneBook", "I", false)
  | _ => ("SlipHeaps$Laws", "span", "I", false)
def tyX3 : Nat → FieldType := fun k => match k with
  | 0 => .array .int
  | 1 => .array .int
  | 2 => .int
  | 3 => .object "SlipHeaps$Entries"
  | 4 => .object "SlipHeaps$Pairs"
  | 5 => .int
  | 6 => .int
  | _ => .int
theorem nmX3 : ∀ a, a < 8 → ∀ b, b < 8 → a ≠ b → (TX3 a).2.1 ≠ (TX3 b).2.1 := by decide +kernel
theorem tyX3_ok : ∀ k, k < 8 → parseFieldDescriptor (TX3 k).2.2.1 = some (tyX3 k) := by decide +kernel
abbrev cX3_init : ByteArray := prog_5_method_1_code
def yX3_init : MethodName := ⟨RX3, "<init>", "(LSlipHeaps$Entries;LSlipHeaps$Pairs;)V"⟩
abbrev cX3_change : ByteArray := prog_5_method_2_code
def yX3_change : MethodName := ⟨RX3, "change", "(II)I"⟩
abbrev cX3_roomOfHeap : ByteArray := prog_5_method_3_code
def yX3_roomOfHeap : MethodName := ⟨RX3, "roomOfHeap", "()I"⟩
abbrev cX3_isFixed : ByteArray := prog_5_method_4_code
def yX3_isFixed : MethodName := ⟨RX3, "isFixed", "(II)Z"⟩
abbrev cX3_bind : ByteArray := prog_5_method_5_code
def yX3_bind : MethodName := ⟨RX3, "bind", "(IIZ)V"⟩
abbrev cX3_unbind : ByteArray := prog_5_method_6_code
def yX3_unbind : MethodName := ⟨RX3, "unbind", "(II)V"⟩
abbrev cX3_partsThem : ByteArray := prog_5_method_7_code
def yX3_partsThem : MethodName := ⟨RX3, "partsThem", "(II)Z"⟩
def RX4 : String := "SlipHeaps$Pairs"
def TX4 : u_T := fun k => match k with
  | 0 => ("SlipHeaps$Pairs", "entries", "LSlipHeaps$Entries;", true)
  | 1 => ("SlipHeaps$Pairs", "rules", "LSlipHeaps$Rules;", false)
  | 2 => ("SlipHeaps$Pairs", "byHandCount", "I", false)
  | 3 => ("SlipHeaps$Pairs", "pulls", "[I", true)
  | 4 => ("SlipHeaps$Pairs", "grounds", "[I", true)
  | 5 => ("SlipHeaps$Pairs", "nevers", "[I", true)
  | 6 => ("SlipHeaps$Pairs", "passes", "[I", true)
  | 7 => ("SlipHeaps$Pairs", "byHand", "[I", true)
  | _ => ("SlipHeaps$Pairs", "facts", "[I", true)
def tyX4 : Nat → FieldType := fun k => match k with
  | 0 => .object "SlipHeaps$Entries"
  | 1 => .object "SlipHeaps$Rules"
  | 2 => .int
  | 3 => .array .int
  | 4 => .array .int
  | 5 => .array .int
  | 6 => .array .int
  | 7 => .array .int
  | _ => .array .int
theorem nmX4 : ∀ a, a < 9 → ∀ b, b < 9 → a ≠ b → (TX4 a).2.1 ≠ (TX4 b).2.1 := by decide +kernel
theorem tyX4_ok : ∀ k, k < 9 → parseFieldDescriptor (TX4 k).2.2.1 = some (tyX4 k) := by decide +kernel
abbrev cX4_init : ByteArray := prog_6_method_1_code
def yX4_init : MethodName := ⟨RX4, "<init>", "(LSlipHeaps$Entries;)V"⟩
abbrev cX4_pull : ByteArray := prog_6_method_2_code
def yX4_pull : MethodName := ⟨RX4, "pull", "(II)I"⟩
abbrev cX4_reasons : ByteArray := prog_6_method_3_code
def yX4_reasons : MethodName := ⟨RX4, "reasons", "(II)I"⟩
abbrev cX4_isNever : ByteArray := prog_6_method_4_code
def yX4_isNever : MethodName := ⟨RX4, "isNever", "(II)Z"⟩
abbrev cX4_isByHand : ByteArray := prog_6_method_5_code
def yX4_isByHand : MethodName := ⟨RX4, "isByHand", "(II)Z"⟩
abbrev cX4_judgeFrom : ByteArray := prog_6_method_6_code
def yX4_judgeFrom : MethodName := ⟨RX4, "judgeFrom", "(I)V"⟩
abbrev cX4_tellByHand : ByteArray := prog_6_method_7_code
def yX4_tellByHand : MethodName := ⟨RX4, "tellByHand", "(III)V"⟩
abbrev cX4_forgetByHand : ByteArray := prog_6_method_8_code
def yX4_forgetByHand : MethodName := ⟨RX4, "forgetByHand", "(II)V"⟩
abbrev cX4_passedCount : ByteArray := prog_6_method_9_code
def yX4_passedCount : MethodName := ⟨RX4, "passedCount", "()I"⟩
abbrev cX4_judge : ByteArray := prog_6_method_10_code
def yX4_judge : MethodName := ⟨RX4, "judge", "(II)V"⟩
abbrev cX4_write : ByteArray := prog_6_method_11_code
def yX4_write : MethodName := ⟨RX4, "write", "(IIIIZ)V"⟩
def RX5 : String := "SlipHeaps$Part"
def TX5 : u_T := fun k => match k with
  | 0 => ("SlipHeaps$Part", "size", "I", false)
  | 1 => ("SlipHeaps$Part", "room", "I", false)
  | 2 => ("SlipHeaps$Part", "entryAt", "[I", true)
  | 3 => ("SlipHeaps$Part", "pulls", "[I", true)
  | 4 => ("SlipHeaps$Part", "parted", "[I", true)
  | 5 => ("SlipHeaps$Part", "bound", "[I", true)
  | 6 => ("SlipHeaps$Part", "handRows", "[I", true)
  | 7 => ("SlipHeaps$Part", "pairs", "LSlipHeaps$Pairs;", true)
  | _ => ("SlipHeaps$Part", "laws", "LSlipHeaps$Laws;", true)
def tyX5 : Nat → FieldType := fun k => match k with
  | 0 => .int
  | 1 => .int
  | 2 => .array .int
  | 3 => .array .int
  | 4 => .array .int
  | 5 => .array .int
  | 6 => .array .int
  | 7 => .object "SlipHeaps$Pairs"
  | _ => .object "SlipHeaps$Laws"
theorem nmX5 : ∀ a, a < 9 → ∀ b, b < 9 → a ≠ b → (TX5 a).2.1 ≠ (TX5 b).2.1 := by decide +kernel
theorem tyX5_ok : ∀ k, k < 9 → parseFieldDescriptor (TX5 k).2.2.1 = some (tyX5 k) := by decide +kernel
abbrev cX5_init : ByteArray := prog_7_method_1_code
def yX5_init : MethodName := ⟨RX5, "<init>", "(LSlipHeaps$Pairs;LSlipHeaps$Laws;)V"⟩
abbrev cX5_load : ByteArray := prog_7_method_2_code
def yX5_load : MethodName := ⟨RX5, "load", "(I)V"⟩
abbrev cX5_pull : ByteArray := prog_7_method_3_code
def yX5_pull : MethodName := ⟨RX5, "pull", "(II)I"⟩
abbrev cX5_placeOf : ByteArray := prog_7_method_4_code
def yX5_placeOf : MethodName := ⟨RX5, "placeOf", "(I)I"⟩
abbrev cX5_settle : ByteArray := prog_7_method_5_code
def yX5_settle : MethodName := ⟨RX5, "settle", "(IIZ)V"⟩
abbrev cX5_lookAt : ByteArray := prog_7_method_6_code
def yX5_lookAt : MethodName := ⟨RX5, "lookAt", "([I)V"⟩
abbrev cX5_amounts : ByteArray := prog_7_method_7_code
def yX5_amounts : MethodName := ⟨RX5, "amounts", "()J"⟩
def RX6 : String := "SlipHeaps$Parts"
def TX6 : u_T := fun k => match k with
  | 0 => ("SlipHeaps$Parts", "number", "[I", true)
  | 1 => ("SlipHeaps$Parts", "pairs", "LSlipHeaps$Pairs;", true)
  | 2 => ("SlipHeaps$Parts", "laws", "LSlipHeaps$Laws;", true)
  | 3 => ("SlipHeaps$Parts", "links", "[I", true)
  | _ => ("SlipHeaps$Parts", "members", "[I", true)
def tyX6 : Nat → FieldType := fun k => match k with
  | 0 => .array .int
  | 1 => .object "SlipHeaps$Pairs"
  | 2 => .object "SlipHeaps$Laws"
  | 3 => .array .int
  | _ => .array .int
theorem nmX6 : ∀ a, a < 5 → ∀ b, b < 5 → a ≠ b → (TX6 a).2.1 ≠ (TX6 b).2.1 := by decide +kernel
theorem tyX6_ok : ∀ k, k < 5 → parseFieldDescriptor (TX6 k).2.2.1 = some (tyX6 k) := by decide +kernel
abbrev cX6_init : ByteArray := prog_8_method_1_code
def yX6_init : MethodName := ⟨RX6, "<init>", "(LSlipHeaps$Pairs;LSlipHeaps$Laws;)V"⟩
abbrev cX6_find : ByteArray := prog_8_method_2_code
def yX6_find : MethodName := ⟨RX6, "find", "(I)I"⟩
abbrev cX6_membersWith : ByteArray := prog_8_method_3_code
def yX6_membersWith : MethodName := ⟨RX6, "membersWith", "(I)I"⟩
abbrev cX6_link : ByteArray := prog_8_method_4_code
def yX6_link : MethodName := ⟨RX6, "link", "(I)V"⟩
abbrev cX6_spread : ByteArray := prog_8_method_5_code
def yX6_spread : MethodName := ⟨RX6, "spread", "(I)V"⟩
def RX7 : String := "SlipHeaps$Reader"
def TX7 : u_T := fun k => match k with
  | 0 => ("SlipHeaps$Reader", "filled", "I", false)
  | 1 => ("SlipHeaps$Reader", "kind", "I", false)
  | 2 => ("SlipHeaps$Reader", "place", "I", false)
  | 3 => ("SlipHeaps$Reader", "draft", "LSlipHeaps$Rules;", false)
  | 4 => ("SlipHeaps$Reader", "tape", "[I", true)
  | 5 => ("SlipHeaps$Reader", "signs", "[I", true)
  | 6 => ("SlipHeaps$Reader", "places", "[I", true)
  | 7 => ("SlipHeaps$Reader", "values", "[I", true)
  | 8 => ("SlipHeaps$Reader", "sign", "I", false)
  | _ => ("SlipHeaps$Reader", "at", "I", false)
def tyX7 : Nat → FieldType := fun k => match k with
  | 0 => .int
  | 1 => .int
  | 2 => .int
  | 3 => .object "SlipHeaps$Rules"
  | 4 => .array .int
  | 5 => .array .int
  | 6 => .array .int
  | 7 => .array .int
  | 8 => .int
  | _ => .int
theorem nmX7 : ∀ a, a < 10 → ∀ b, b < 10 → a ≠ b → (TX7 a).2.1 ≠ (TX7 b).2.1 := by decide +kernel
theorem tyX7_ok : ∀ k, k < 10 → parseFieldDescriptor (TX7 k).2.2.1 = some (tyX7 k) := by decide +kernel
abbrev cX7_init : ByteArray := prog_9_method_1_code
def yX7_init : MethodName := ⟨RX7, "<init>", "()V"⟩
abbrev cX7_takeIn : ByteArray := prog_9_method_2_code
def yX7_takeIn : MethodName := ⟨RX7, "takeIn", "(I)V"⟩
abbrev cX7_read : ByteArray := prog_9_method_3_code
def yX7_read : MethodName := ⟨RX7, "read", "(I)Z"⟩
abbrev cX7_scan : ByteArray := prog_9_method_4_code
def yX7_scan : MethodName := ⟨RX7, "scan", "(I)V"⟩
abbrev cX7_goesOn : ByteArray := prog_9_method_5_code
def yX7_goesOn : MethodName := ⟨RX7, "goesOn", "(II)Z"⟩
abbrev cX7_isLetter : ByteArray := prog_9_method_6_code
def yX7_isLetter : MethodName := ⟨RX7, "isLetter", "(I)Z"⟩
abbrev cX7_isDigit : ByteArray := prog_9_method_7_code
def yX7_isDigit : MethodName := ⟨RX7, "isDigit", "(I)Z"⟩
abbrev cX7_numberAt : ByteArray := prog_9_method_8_code
def yX7_numberAt : MethodName := ⟨RX7, "numberAt", "(II)I"⟩
abbrev cX7_wordAt : ByteArray := prog_9_method_9_code
def yX7_wordAt : MethodName := ⟨RX7, "wordAt", "(II)I"⟩
abbrev cX7_isSpelt : ByteArray := prog_9_method_10_code
def yX7_isSpelt : MethodName := ⟨RX7, "isSpelt", "(Ljava/lang/String;II)Z"⟩
abbrev cX7_spelling : ByteArray := prog_9_method_11_code
def yX7_spelling : MethodName := ⟨RX7, "spelling", "(I)Ljava/lang/String;"⟩
abbrev cX7_advance : ByteArray := prog_9_method_12_code
def yX7_advance : MethodName := ⟨RX7, "advance", "()V"⟩
abbrev cX7_refuse : ByteArray := prog_9_method_13_code
def yX7_refuse : MethodName := ⟨RX7, "refuse", "(I)Z"⟩
abbrev cX7_pass : ByteArray := prog_9_method_14_code
def yX7_pass : MethodName := ⟨RX7, "pass", "(I)Z"⟩
abbrev cX7_open : ByteArray := prog_9_method_15_code
def yX7_open : MethodName := ⟨RX7, "open", "(II)Z"⟩
abbrev cX7_emit : ByteArray := prog_9_method_16_code
def yX7_emit : MethodName := ⟨RX7, "emit", "(I)Z"⟩
abbrev cX7_readClause : ByteArray := prog_9_method_17_code
def yX7_readClause : MethodName := ⟨RX7, "readClause", "()Z"⟩
abbrev cX7_readSum : ByteArray := prog_9_method_18_code
def yX7_readSum : MethodName := ⟨RX7, "readSum", "(I)Z"⟩
abbrev cX7_readProduct : ByteArray := prog_9_method_19_code
def yX7_readProduct : MethodName := ⟨RX7, "readProduct", "(I)Z"⟩
abbrev cX7_readUnit : ByteArray := prog_9_method_20_code
def yX7_readUnit : MethodName := ⟨RX7, "readUnit", "(I)Z"⟩
abbrev cX7_readAny : ByteArray := prog_9_method_21_code
def yX7_readAny : MethodName := ⟨RX7, "readAny", "(I)Z"⟩
abbrev cX7_readEach : ByteArray := prog_9_method_22_code
def yX7_readEach : MethodName := ⟨RX7, "readEach", "(I)Z"⟩
abbrev cX7_readNot : ByteArray := prog_9_method_23_code
def yX7_readNot : MethodName := ⟨RX7, "readNot", "(I)Z"⟩
abbrev cX7_readTest : ByteArray := prog_9_method_24_code
def yX7_readTest : MethodName := ⟨RX7, "readTest", "(I)Z"⟩
def RX8 : String := "SlipHeaps$Rings"
def TX8 : u_T := fun k => match k with
  | 0 => ("SlipHeaps$Rings", "toldCount", "I", false)
  | 1 => ("SlipHeaps$Rings", "toldBound", "J", false)
  | 2 => ("SlipHeaps$Rings", "packedBound", "J", false)
  | 3 => ("SlipHeaps$Rings", "pairs", "LSlipHeaps$Pairs;", true)
  | 4 => ("SlipHeaps$Rings", "toldTaken", "[I", true)
  | 5 => ("SlipHeaps$Rings", "packTaken", "[I", true)
  | _ => ("SlipHeaps$Rings", "hits", "[I", true)
def tyX8 : Nat → FieldType := fun k => match k with
  | 0 => .int
  | 1 => .long
  | 2 => .long
  | 3 => .object "SlipHeaps$Pairs"
  | 4 => .array .int
  | 5 => .array .int
  | _ => .array .int
theorem nmX8 : ∀ a, a < 7 → ∀ b, b < 7 → a ≠ b → (TX8 a).2.1 ≠ (TX8 b).2.1 := by decide +kernel
theorem tyX8_ok : ∀ k, k < 7 → parseFieldDescriptor (TX8 k).2.2.1 = some (tyX8 k) := by decide +kernel
abbrev cX8_init : ByteArray := prog_10_method_1_code
def yX8_init : MethodName := ⟨RX8, "<init>", "(LSlipHeaps$Pairs;)V"⟩
abbrev cX8_wipe : ByteArray := prog_10_method_2_code
def yX8_wipe : MethodName := ⟨RX8, "wipe", "()V"⟩
abbrev cX8_isDrawn : ByteArray := prog_10_method_3_code
def yX8_isDrawn : MethodName := ⟨RX8, "isDrawn", "(II)Z"⟩
abbrev cX8_isRepelled : ByteArray := prog_10_method_4_code
def yX8_isRepelled : MethodName := ⟨RX8, "isRepelled", "(II)Z"⟩
abbrev cX8_isRing : ByteArray := prog_10_method_5_code
def yX8_isRing : MethodName := ⟨RX8, "isRing", "(III)Z"⟩
abbrev cX8_rest : ByteArray := prog_10_method_6_code
def yX8_rest : MethodName := ⟨RX8, "rest", "([III)I"⟩
abbrev cX8_leastRest : ByteArray := prog_10_method_7_code
def yX8_leastRest : MethodName := ⟨RX8, "leastRest", "([IIII)I"⟩
abbrev cX8_takeFrom : ByteArray := prog_10_method_8_code
def yX8_takeFrom : MethodName := ⟨RX8, "takeFrom", "([IIII)V"⟩
abbrev cX8_takeFromAll : ByteArray := prog_10_method_9_code
def yX8_takeFromAll : MethodName := ⟨RX8, "takeFromAll", "([IIIII)V"⟩
abbrev cX8_canTake : ByteArray := prog_10_method_10_code
def yX8_canTake : MethodName := ⟨RX8, "canTake", "(IIII)Z"⟩
abbrev cX8_tell : ByteArray := prog_10_method_11_code
def yX8_tell : MethodName := ⟨RX8, "tell", "(IIII)V"⟩
abbrev cX8_howMany : ByteArray := prog_10_method_12_code
def yX8_howMany : MethodName := ⟨RX8, "howMany", "()I"⟩
abbrev cX8_pack : ByteArray := prog_10_method_13_code
def yX8_pack : MethodName := ⟨RX8, "pack", "(I)V"⟩
abbrev cX8_remember : ByteArray := prog_10_method_14_code
def yX8_remember : MethodName := ⟨RX8, "remember", "(IIII)V"⟩
abbrev cX8_hit : ByteArray := prog_10_method_15_code
def yX8_hit : MethodName := ⟨RX8, "hit", "(I)I"⟩
def RX9 : String := "SlipHeaps$Rules"
def TX9 : u_T := fun k => match k with
  | 0 => ("SlipHeaps$Rules", "clauses", "I", false)
  | 1 => ("SlipHeaps$Rules", "verdict", "I", false)
  | 2 => ("SlipHeaps$Rules", "reasons", "I", false)
  | 3 => ("SlipHeaps$Rules", "never", "Z", false)
  | 4 => ("SlipHeaps$Rules", "passed", "Z", false)
  | 5 => ("SlipHeaps$Rules", "steps", "I", false)
  | 6 => ("SlipHeaps$Rules", "sorts", "[I", true)
  | 7 => ("SlipHeaps$Rules", "starts", "[I", true)
  | 8 => ("SlipHeaps$Rules", "conditions", "[I", true)
  | 9 => ("SlipHeaps$Rules", "code", "[I", true)
  | 10 => ("SlipHeaps$Rules", "numbers", "[I", true)
  | _ => ("SlipHeaps$Rules", "stack", "[I", true)
def tyX9 : Nat → FieldType := fun k => match k with
  | 0 => .int
  | 1 => .int
  | 2 => .int
  | 3 => .boolean
  | 4 => .boolean
  | 5 => .int
  | 6 => .array .int
  | 7 => .array .int
  | 8 => .array .int
  | 9 => .array .int
  | 10 => .array .int
  | _ => .array .int
theorem nmX9 : ∀ a, a < 12 → ∀ b, b < 12 → a ≠ b → (TX9 a).2.1 ≠ (TX9 b).2.1 := by decide +kernel
theorem tyX9_ok : ∀ k, k < 12 → parseFieldDescriptor (TX9 k).2.2.1 = some (tyX9 k) := by decide +kernel
abbrev cX9_init : ByteArray := prog_11_method_1_code
def yX9_init : MethodName := ⟨RX9, "<init>", "()V"⟩
abbrev cX9_clear : ByteArray := prog_11_method_2_code
def yX9_clear : MethodName := ⟨RX9, "clear", "()V"⟩
abbrev cX9_isFull : ByteArray := prog_11_method_3_code
def yX9_isFull : MethodName := ⟨RX9, "isFull", "()Z"⟩
abbrev cX9_emit : ByteArray := prog_11_method_4_code
def yX9_emit : MethodName := ⟨RX9, "emit", "(II)V"⟩
abbrev cX9_open : ByteArray := prog_11_method_5_code
def yX9_open : MethodName := ⟨RX9, "open", "(I)V"⟩
abbrev cX9_beginCondition : ByteArray := prog_11_method_6_code
def yX9_beginCondition : MethodName := ⟨RX9, "beginCondition", "()V"⟩
abbrev cX9_close : ByteArray := prog_11_method_7_code
def yX9_close : MethodName := ⟨RX9, "close", "()V"⟩
abbrev cX9_judge : ByteArray := prog_11_method_8_code
def yX9_judge : MethodName := ⟨RX9, "judge", "([I)V"⟩
abbrev cX9_workLooks : ByteArray := prog_11_method_9_code
def yX9_workLooks : MethodName := ⟨RX9, "workLooks", "([I)Z"⟩
abbrev cX9_workOthers : ByteArray := prog_11_method_10_code
def yX9_workOthers : MethodName := ⟨RX9, "workOthers", "([I)V"⟩
abbrev cX9_applies : ByteArray := prog_11_method_11_code
def yX9_applies : MethodName := ⟨RX9, "applies", "(I[I)Z"⟩
abbrev cX9_work : ByteArray := prog_11_method_12_code
def yX9_work : MethodName := ⟨RX9, "work", "(II[I)I"⟩
abbrev cX9_combine : ByteArray := prog_11_method_13_code
def yX9_combine : MethodName := ⟨RX9, "combine", "(III)I"⟩
def RX10 : String := "SlipHeaps$Search"
def TX10 : u_T := fun k => match k with
  | 0 => ("SlipHeaps$Search", "leastCost", "I", false)
  | 1 => ("SlipHeaps$Search", "ways", "I", false)
  | 2 => ("SlipHeaps$Search", "fewest", "I", false)
  | 3 => ("SlipHeaps$Search", "part", "LSlipHeaps$Part;", true)
  | 4 => ("SlipHeaps$Search", "restCosts", "[I", true)
  | 5 => ("SlipHeaps$Search", "heapMasks", "[I", true)
  | 6 => ("SlipHeaps$Search", "heapLeasts", "[I", true)
  | 7 => ("SlipHeaps$Search", "now", "[I", true)
  | 8 => ("SlipHeaps$Search", "chosen", "[I", true)
  | 9 => ("SlipHeaps$Search", "listed", "[J", true)
  | 10 => ("SlipHeaps$Search", "heaps", "I", false)
  | 11 => ("SlipHeaps$Search", "from", "I", false)
  | 12 => ("SlipHeaps$Search", "limit", "I", false)
  | 13 => ("SlipHeaps$Search", "aim", "I", false)
  | 14 => ("SlipHeaps$Search", "inEach", "J", false)
  | _ => ("SlipHeaps$Search", "inSome", "J", false)
def tyX10 : Nat → FieldType := fun k => match k with
  | 0 => .int
  | 1 => .int
  | 2 => .int
  | 3 => .object "SlipHeaps$Part"
  | 4 => .array .int
  | 5 => .array .int
  | 6 => .array .int
  | 7 => .array .int
  | 8 => .array .int
  | 9 => .array .long
  | 10 => .int
  | 11 => .int
  | 12 => .int
  | 13 => .int
  | 14 => .long
  | _ => .long
theorem nmX10 : ∀ a, a < 16 → ∀ b, b < 16 → a ≠ b → (TX10 a).2.1 ≠ (TX10 b).2.1 := by decide +kernel
theorem tyX10_ok : ∀ k, k < 16 → parseFieldDescriptor (TX10 k).2.2.1 = some (tyX10 k) := by decide +kernel
abbrev cX10_init : ByteArray := prog_12_method_1_code
def yX10_init : MethodName := ⟨RX10, "<init>", "(LSlipHeaps$Part;)V"⟩
abbrev cX10_measure : ByteArray := prog_12_method_2_code
def yX10_measure : MethodName := ⟨RX10, "measure", "()Z"⟩
abbrev cX10_list : ByteArray := prog_12_method_3_code
def yX10_list : MethodName := ⟨RX10, "list", "()V"⟩
abbrev cX10_approach : ByteArray := prog_12_method_4_code
def yX10_approach : MethodName := ⟨RX10, "approach", "(I)V"⟩
abbrev cX10_place : ByteArray := prog_12_method_5_code
def yX10_place : MethodName := ⟨RX10, "place", "(IIIJ)V"⟩
abbrev cX10_enter : ByteArray := prog_12_method_6_code
def yX10_enter : MethodName := ⟨RX10, "enter", "(IIIIJ)V"⟩
abbrev cX10_drawn : ByteArray := prog_12_method_7_code
def yX10_drawn : MethodName := ⟨RX10, "drawn", "(I)I"⟩
abbrev cX10_pullTo : ByteArray := prog_12_method_8_code
def yX10_pullTo : MethodName := ⟨RX10, "pullTo", "(II)I"⟩
abbrev cX10_record : ByteArray := prog_12_method_9_code
def yX10_record : MethodName := ⟨RX10, "record", "(IIJ)V"⟩
abbrev cX10_heapOf : ByteArray := prog_12_method_10_code
def yX10_heapOf : MethodName := ⟨RX10, "heapOf", "(I)I"⟩
abbrev cX10_copyFirst : ByteArray := prog_12_method_11_code
def yX10_copyFirst : MethodName := ⟨RX10, "copyFirst", "([I)V"⟩
abbrev cX10_pairBit : ByteArray := prog_12_method_12_code
def yX10_pairBit : MethodName := ⟨RX10, "pairBit", "(II)J"⟩
abbrev cX10_togetherness : ByteArray := prog_12_method_13_code
def yX10_togetherness : MethodName := ⟨RX10, "togetherness", "(II)I"⟩
abbrev cX10_question : ByteArray := prog_12_method_14_code
def yX10_question : MethodName := ⟨RX10, "question", "()I"⟩
abbrev cX10_freeLeft : ByteArray := prog_12_method_15_code
def yX10_freeLeft : MethodName := ⟨RX10, "freeLeft", "(JJ)I"⟩
def RX11 : String := "SlipHeaps"
def TX11 : u_T := fun k => match k with
  | 0 => ("SlipHeaps", "entries", "LSlipHeaps$Entries;", true)
  | 1 => ("SlipHeaps", "reader", "LSlipHeaps$Reader;", true)
  | 2 => ("SlipHeaps", "pairs", "LSlipHeaps$Pairs;", true)
  | 3 => ("SlipHeaps", "laws", "LSlipHeaps$Laws;", true)
  | 4 => ("SlipHeaps", "hand", "LSlipHeaps$Hand;", true)
  | 5 => ("SlipHeaps", "changes", "LSlipHeaps$Changes;", true)
  | 6 => ("SlipHeaps", "packs", "LSlipHeaps$Rings;", true)
  | 7 => ("SlipHeaps", "parts", "LSlipHeaps$Parts;", true)
  | 8 => ("SlipHeaps", "part", "LSlipHeaps$Part;", true)
  | 9 => ("SlipHeaps", "search", "LSlipHeaps$Search;", true)
  | 10 => ("SlipHeaps", "firstOfAll", "[I", true)
  | _ => ("SlipHeaps", "firstOfOthers", "[I", true)
def tyX11 : Nat → FieldType := fun k => match k with
  | 0 => .object "SlipHeaps$Entries"
  | 1 => .object "SlipHeaps$Reader"
  | 2 => .object "SlipHeaps$Pairs"
  | 3 => .object "SlipHeaps$Laws"
  | 4 => .object "SlipHeaps$Hand"
  | 5 => .object "SlipHeaps$Changes"
  | 6 => .object "SlipHeaps$Rings"
  | 7 => .object "SlipHeaps$Parts"
  | 8 => .object "SlipHeaps$Part"
  | 9 => .object "SlipHeaps$Search"
  | 10 => .array .int
  | _ => .array .int
theorem nmX11 : ∀ a, a < 12 → ∀ b, b < 12 → a ≠ b → (TX11 a).2.1 ≠ (TX11 b).2.1 := by decide +kernel
theorem tyX11_ok : ∀ k, k < 12 → parseFieldDescriptor (TX11 k).2.2.1 = some (tyX11 k) := by decide +kernel
abbrev cX11_init : ByteArray := prog_1_method_1_code
def yX11_init : MethodName := ⟨RX11, "<init>", "()V"⟩
abbrev cX11_entry : ByteArray := prog_1_method_2_code
def yX11_entry : MethodName := ⟨RX11, "entry", "(IIIII)I"⟩
abbrev cX11_of : ByteArray := prog_1_method_3_code
def yX11_of : MethodName := ⟨RX11, "of", "(II)I"⟩
abbrev cX11_like : ByteArray := prog_1_method_4_code
def yX11_like : MethodName := ⟨RX11, "like", "(III)I"⟩
abbrev cX11_feed : ByteArray := prog_1_method_5_code
def yX11_feed : MethodName := ⟨RX11, "feed", "(IIIII)I"⟩
abbrev cX11_rules : ByteArray := prog_1_method_6_code
def yX11_rules : MethodName := ⟨RX11, "rules", "(I)I"⟩
abbrev cX11_fault : ByteArray := prog_1_method_7_code
def yX11_fault : MethodName := ⟨RX11, "fault", "()I"⟩
abbrev cX11_weight : ByteArray := prog_1_method_8_code
def yX11_weight : MethodName := ⟨RX11, "weight", "(II)I"⟩
abbrev cX11_why : ByteArray := prog_1_method_9_code
def yX11_why : MethodName := ⟨RX11, "why", "(II)I"⟩
abbrev cX11_weigh : ByteArray := prog_1_method_10_code
def yX11_weigh : MethodName := ⟨RX11, "weigh", "(III)I"⟩
abbrev cX11_forget : ByteArray := prog_1_method_11_code
def yX11_forget : MethodName := ⟨RX11, "forget", "(II)I"⟩
abbrev cX11_law : ByteArray := prog_1_method_12_code
def yX11_law : MethodName := ⟨RX11, "law", "(II)I"⟩
abbrev cX11_fix : ByteArray := prog_1_method_13_code
def yX11_fix : MethodName := ⟨RX11, "fix", "(IIZ)I"⟩
abbrev cX11_loose : ByteArray := prog_1_method_14_code
def yX11_loose : MethodName := ⟨RX11, "loose", "(II)I"⟩
abbrev cX11_put : ByteArray := prog_1_method_15_code
def yX11_put : MethodName := ⟨RX11, "put", "(II)I"⟩
abbrev cX11_alone : ByteArray := prog_1_method_16_code
def yX11_alone : MethodName := ⟨RX11, "alone", "(I)Z"⟩
abbrev cX11_join : ByteArray := prog_1_method_17_code
def yX11_join : MethodName := ⟨RX11, "join", "(II)I"⟩
abbrev cX11_swap : ByteArray := prog_1_method_18_code
def yX11_swap : MethodName := ⟨RX11, "swap", "(II)I"⟩
abbrev cX11_cost : ByteArray := prog_1_method_19_code
def yX11_cost : MethodName := ⟨RX11, "cost", "()J"⟩
abbrev cX11_barred : ByteArray := prog_1_method_20_code
def yX11_barred : MethodName := ⟨RX11, "barred", "()I"⟩
abbrev cX11_better : ByteArray := prog_1_method_21_code
def yX11_better : MethodName := ⟨RX11, "better", "(I)J"⟩
abbrev cX11_grow : ByteArray := prog_1_method_22_code
def yX11_grow : MethodName := ⟨RX11, "grow", "(I)I"⟩
abbrev cX11_bound : ByteArray := prog_1_method_23_code
def yX11_bound : MethodName := ⟨RX11, "bound", "()J"⟩
abbrev cX11_ring : ByteArray := prog_1_method_24_code
def yX11_ring : MethodName := ⟨RX11, "ring", "(II)I"⟩
abbrev cX11_rings : ByteArray := prog_1_method_25_code
def yX11_rings : MethodName := ⟨RX11, "rings", "()I"⟩
abbrev cX11_told : ByteArray := prog_1_method_26_code
def yX11_told : MethodName := ⟨RX11, "told", "(IIII)J"⟩
abbrev cX11_best : ByteArray := prog_1_method_27_code
def yX11_best : MethodName := ⟨RX11, "best", "(I)J"⟩
abbrev cX11_many : ByteArray := prog_1_method_28_code
def yX11_many : MethodName := ⟨RX11, "many", "(I)I"⟩
abbrev cX11_first : ByteArray := prog_1_method_29_code
def yX11_first : MethodName := ⟨RX11, "first", "(I)I"⟩
abbrev cX11_all : ByteArray := prog_1_method_30_code
def yX11_all : MethodName := ⟨RX11, "all", "()J"⟩
abbrev cX11_take : ByteArray := prog_1_method_31_code
def yX11_take : MethodName := ⟨RX11, "take", "()I"⟩
abbrev cX11_always : ByteArray := prog_1_method_32_code
def yX11_always : MethodName := ⟨RX11, "always", "(II)I"⟩
abbrev cX11_edge : ByteArray := prog_1_method_33_code
def yX11_edge : MethodName := ⟨RX11, "edge", "(II)J"⟩
abbrev cX11_holds : ByteArray := prog_1_method_34_code
def yX11_holds : MethodName := ⟨RX11, "holds", "(III)I"⟩
abbrev cX11_asked : ByteArray := prog_1_method_35_code
def yX11_asked : MethodName := ⟨RX11, "asked", "(I)I"⟩
abbrev cX11_near : ByteArray := prog_1_method_36_code
def yX11_near : MethodName := ⟨RX11, "near", "(II)I"⟩
abbrev cX11_nearest : ByteArray := prog_1_method_37_code
def yX11_nearest : MethodName := ⟨RX11, "nearest", "(II)I"⟩
abbrev cX11_without : ByteArray := prog_1_method_38_code
def yX11_without : MethodName := ⟨RX11, "without", "(I)J"⟩
abbrev cX11_stands : ByteArray := prog_1_method_39_code
def yX11_stands : MethodName := ⟨RX11, "stands", "(I)I"⟩
abbrev cX11_mark : ByteArray := prog_1_method_40_code
def yX11_mark : MethodName := ⟨RX11, "mark", "()I"⟩
abbrev cX11_back : ByteArray := prog_1_method_41_code
def yX11_back : MethodName := ⟨RX11, "back", "()I"⟩
abbrev cX11_count : ByteArray := prog_1_method_42_code
def yX11_count : MethodName := ⟨RX11, "count", "(I)I"⟩
abbrev cX11_isWithin : ByteArray := prog_1_method_43_code
def yX11_isWithin : MethodName := ⟨RX11, "isWithin", "(III)Z"⟩
abbrev cX11_refuseUnless : ByteArray := prog_1_method_44_code
def yX11_refuseUnless : MethodName := ⟨RX11, "refuseUnless", "(Z)V"⟩
abbrev cX11_needEntry : ByteArray := prog_1_method_45_code
def yX11_needEntry : MethodName := ⟨RX11, "needEntry", "(I)V"⟩
abbrev cX11_needPair : ByteArray := prog_1_method_46_code
def yX11_needPair : MethodName := ⟨RX11, "needPair", "(II)V"⟩
abbrev cX11_membersOfPart : ByteArray := prog_1_method_47_code
def yX11_membersOfPart : MethodName := ⟨RX11, "membersOfPart", "(I)I"⟩
abbrev cX11_solve : ByteArray := prog_1_method_48_code
def yX11_solve : MethodName := ⟨RX11, "solve", "(I)I"⟩
abbrev cX11_listPartOf : ByteArray := prog_1_method_49_code
def yX11_listPartOf : MethodName := ⟨RX11, "listPartOf", "(I)I"⟩
abbrev cX11_solveAmong : ByteArray := prog_1_method_50_code
def yX11_solveAmong : MethodName := ⟨RX11, "solveAmong", "(I[I)J"⟩
abbrev cX11_edgeOf : ByteArray := prog_1_method_51_code
def yX11_edgeOf : MethodName := ⟨RX11, "edgeOf", "(II)J"⟩
abbrev cX11_nearPartOf : ByteArray := prog_1_method_52_code
def yX11_nearPartOf : MethodName := ⟨RX11, "nearPartOf", "(II)I"⟩
abbrev cX11_maskOf : ByteArray := prog_1_method_53_code
def yX11_maskOf : MethodName := ⟨RX11, "maskOf", "([II)I"⟩
abbrev cX11_setBit : ByteArray := prog_1_method_54_code
def yX11_setBit : MethodName := ⟨RX11, "setBit", "([IIIZ)V"⟩
def RX12 : String := "SlipHeapsModel"
def TX12 : u_T := fun k => match k with
  | 0 => ("SlipHeapsModel", "thrown", "I", false)
  | 1 => ("SlipHeapsModel", "entries", "I", false)
  | 2 => ("SlipHeapsModel", "book", "[I", true)
  | 3 => ("SlipHeapsModel", "name", "[I", true)
  | 4 => ("SlipHeapsModel", "trade", "[I", true)
  | 5 => ("SlipHeapsModel", "year", "[I", true)
  | 6 => ("SlipHeapsModel", "father", "[I", true)
  | 7 => ("SlipHeapsModel", "hand", "[I", true)
  | 8 => ("SlipHeapsModel", "like", "[I", true)
  | 9 => ("SlipHeapsModel", "taped", "I", false)
  | 10 => ("SlipHeapsModel", "size", "I", false)
  | 11 => ("SlipHeapsModel", "at", "I", false)
  | 12 => ("SlipHeapsModel", "bad", "I", false)
  | 13 => ("SlipHeapsModel", "badKind", "I", false)
  | 14 => ("SlipHeapsModel", "opens", "I", false)
  | 15 => ("SlipHeapsModel", "codes", "I", false)
  | 16 => ("SlipHeapsModel", "clauses", "I", false)
  | 17 => ("SlipHeapsModel", "newClauses", "I", false)
  | 18 => ("SlipHeapsModel", "faultAt", "I", false)
  | 19 => ("SlipHeapsModel", "tape", "[I", true)
  | 20 => ("SlipHeapsModel", "kind", "[I", true)
  | 21 => ("SlipHeapsModel", "from", "[I", true)
  | 22 => ("SlipHeapsModel", "mid", "[I", true)
  | 23 => ("SlipHeapsModel", "to", "[I", true)
  | 24 => ("SlipHeapsModel", "code", "[I", true)
  | 25 => ("SlipHeapsModel", "codeNumber", "[I", true)
  | 26 => ("SlipHeapsModel", "newKind", "[I", true)
  | 27 => ("SlipHeapsModel", "newFrom", "[I", true)
  | 28 => ("SlipHeapsModel", "newMid", "[I", true)
  | 29 => ("SlipHeapsModel", "newTo", "[I", true)
  | 30 => ("SlipHeapsModel", "newCode", "[I", true)
  | 31 => ("SlipHeapsModel", "newNumber", "[I", true)
  | 32 => ("SlipHeapsModel", "stack", "[I", true)
  | 33 => ("SlipHeapsModel", "told", "I", false)
  | 34 => ("SlipHeapsModel", "toldA", "[I", true)
  | 35 => ("SlipHeapsModel", "toldB", "[I", true)
  | 36 => ("SlipHeapsModel", "toldWeight", "[I", true)
  | 37 => ("SlipHeapsModel", "weight", "[I", true)
  | 38 => ("SlipHeapsModel", "isNever", "[Z", true)
  | 39 => ("SlipHeapsModel", "isApart", "[Z", true)
  | 40 => ("SlipHeapsModel", "isTied", "[Z", true)
  | 41 => ("SlipHeapsModel", "most", "I", false)
  | 42 => ("SlipHeapsModel", "oneBook", "I", false)
  | 43 => ("SlipHeapsModel", "span", "I", false)
  | 44 => ("SlipHeapsModel", "fixes", "I", false)
  | 45 => ("SlipHeapsModel", "fixA", "[I", true)
  | 46 => ("SlipHeapsModel", "fixB", "[I", true)
  | 47 => ("SlipHeapsModel", "isTogether", "[Z", true)
  | 48 => ("SlipHeapsModel", "trial", "[I", true)
  | 49 => ("SlipHeapsModel", "next", "[I", true)
  | 50 => ("SlipHeapsModel", "hasBetter", "Z", false)
  | 51 => ("SlipHeapsModel", "betterCost", "J", false)
  | 52 => ("SlipHeapsModel", "betterSort", "I", false)
  | 53 => ("SlipHeapsModel", "betterOne", "I", false)
  | 54 => ("SlipHeapsModel", "betterOther", "I", false)
  | 55 => ("SlipHeapsModel", "betterHand", "[I", true)
  | 56 => ("SlipHeapsModel", "rings", "I", false)
  | 57 => ("SlipHeapsModel", "toldBound", "J", false)
  | 58 => ("SlipHeapsModel", "rest", "[I", true)
  | 59 => ("SlipHeapsModel", "toldRest", "[I", true)
  | 60 => ("SlipHeapsModel", "hasRests", "Z", false)
  | 61 => ("SlipHeapsModel", "ringMany", "I", false)
  | 62 => ("SlipHeapsModel", "takers", "I", false)
  | 63 => ("SlipHeapsModel", "ringTold", "[I", true)
  | 64 => ("SlipHeapsModel", "members", "I", false)
  | 65 => ("SlipHeapsModel", "isUsed", "[Z", true)
  | 66 => ("SlipHeapsModel", "isIn", "[Z", true)
  | 67 => ("SlipHeapsModel", "member", "[I", true)
  | 68 => ("SlipHeapsModel", "mode", "I", false)
  | 69 => ("SlipHeapsModel", "heaps", "I", false)
  | 70 => ("SlipHeapsModel", "bestMany", "I", false)
  | 71 => ("SlipHeapsModel", "lists", "I", false)
  | 72 => ("SlipHeapsModel", "pairA", "I", false)
  | 73 => ("SlipHeapsModel", "pairB", "I", false)
  | 74 => ("SlipHeapsModel", "bestFar", "I", false)
  | 75 => ("SlipHeapsModel", "best", "J", false)
  | 76 => ("SlipHeapsModel", "allowed", "J", false)
  | 77 => ("SlipHeapsModel", "edgeApart", "J", false)
  | 78 => ("SlipHeapsModel", "edgeTogether", "J", false)
  | 79 => ("SlipHeapsModel", "andMask", "J", false)
  | 80 => ("SlipHeapsModel", "orMask", "J", false)
  | 81 => ("SlipHeapsModel", "at0", "[I", true)
  | 82 => ("SlipHeapsModel", "heapSize", "[I", true)
  | 83 => ("SlipHeapsModel", "first", "[I", true)
  | 84 => ("SlipHeapsModel", "nearFirst", "[I", true)
  | 85 => ("SlipHeapsModel", "list", "[J", true)
  | 86 => ("SlipHeapsModel", "whole", "[I", true)
  | 87 => ("SlipHeapsModel", "part", "[I", true)
  | 88 => ("SlipHeapsModel", "marks", "I", false)
  | 89 => ("SlipHeapsModel", "markMany", "[I", true)
  | _ => ("SlipHeapsModel", "markHand", "[I", true)
def tyX12 : Nat → FieldType := fun k => match k with
  | 0 => .int
  | 1 => .int
  | 2 => .array .int
  | 3 => .array .int
  | 4 => .array .int
  | 5 => .array .int
  | 6 => .array .int
  | 7 => .array .int
  | 8 => .array .int
  | 9 => .int
  | 10 => .int
  | 11 => .int
  | 12 => .int
  | 13 => .int
  | 14 => .int
  | 15 => .int
  | 16 => .int
  | 17 => .int
  | 18 => .int
  | 19 => .array .int
  | 20 => .array .int
  | 21 => .array .int
  | 22 => .array .int
  | 23 => .array .int
  | 24 => .array .int
  | 25 => .array .int
  | 26 => .array .int
  | 27 => .array .int
  | 28 => .array .int
  | 29 => .array .int
  | 30 => .array .int
  | 31 => .array .int
  | 32 => .array .int
  | 33 => .int
  | 34 => .array .int
  | 35 => .array .int
  | 36 => .array .int
  | 37 => .array .int
  | 38 => .array .boolean
  | 39 => .array .boolean
  | 40 => .array .boolean
  | 41 => .int
  | 42 => .int
  | 43 => .int
  | 44 => .int
  | 45 => .array .int
  | 46 => .array .int
  | 47 => .array .boolean
  | 48 => .array .int
  | 49 => .array .int
  | 50 => .boolean
  | 51 => .long
  | 52 => .int
  | 53 => .int
  | 54 => .int
  | 55 => .array .int
  | 56 => .int
  | 57 => .long
  | 58 => .array .int
  | 59 => .array .int
  | 60 => .boolean
  | 61 => .int
  | 62 => .int
  | 63 => .array .int
  | 64 => .int
  | 65 => .array .boolean
  | 66 => .array .boolean
  | 67 => .array .int
  | 68 => .int
  | 69 => .int
  | 70 => .int
  | 71 => .int
  | 72 => .int
  | 73 => .int
  | 74 => .int
  | 75 => .long
  | 76 => .long
  | 77 => .long
  | 78 => .long
  | 79 => .long
  | 80 => .long
  | 81 => .array .int
  | 82 => .array .int
  | 83 => .array .int
  | 84 => .array .int
  | 85 => .array .long
  | 86 => .array .int
  | 87 => .array .int
  | 88 => .int
  | 89 => .array .int
  | _ => .array .int
theorem nmX12 : ∀ a, a < 91 → ∀ b, b < 91 → a ≠ b → (TX12 a).2.1 ≠ (TX12 b).2.1 := by decide +kernel
theorem tyX12_ok : ∀ k, k < 91 → parseFieldDescriptor (TX12 k).2.2.1 = some (tyX12 k) := by decide +kernel
abbrev cX12_thrown : ByteArray := prog_14_method_1_code
def yX12_thrown : MethodName := ⟨RX12, "thrown", "()I"⟩
abbrev cX12_may : ByteArray := prog_14_method_2_code
def yX12_may : MethodName := ⟨RX12, "may", "(ZI)Z"⟩
abbrev cX12_within : ByteArray := prog_14_method_3_code
def yX12_within : MethodName := ⟨RX12, "within", "(III)Z"⟩
abbrev cX12_off : ByteArray := prog_14_method_4_code
def yX12_off : MethodName := ⟨RX12, "off", "(I)I"⟩
abbrev cX12_init : ByteArray := prog_14_method_5_code
def yX12_init : MethodName := ⟨RX12, "<init>", "()V"⟩
abbrev cX12_entry : ByteArray := prog_14_method_6_code
def yX12_entry : MethodName := ⟨RX12, "entry", "(IIIII)I"⟩
abbrev cX12_isEntry : ByteArray := prog_14_method_7_code
def yX12_isEntry : MethodName := ⟨RX12, "isEntry", "(I)Z"⟩
abbrev cX12_isPair : ByteArray := prog_14_method_8_code
def yX12_isPair : MethodName := ⟨RX12, "isPair", "(II)Z"⟩
abbrev cX12_of : ByteArray := prog_14_method_9_code
def yX12_of : MethodName := ⟨RX12, "of", "(II)I"⟩
abbrev cX12_like : ByteArray := prog_14_method_10_code
def yX12_like : MethodName := ⟨RX12, "like", "(III)I"⟩
abbrev cX12_feed : ByteArray := prog_14_method_11_code
def yX12_feed : MethodName := ⟨RX12, "feed", "(IIIII)I"⟩
abbrev cX12_fine : ByteArray := prog_14_method_12_code
def yX12_fine : MethodName := ⟨RX12, "fine", "()Z"⟩
abbrev cX12_wrong : ByteArray := prog_14_method_13_code
def yX12_wrong : MethodName := ⟨RX12, "wrong", "(II)V"⟩
abbrev cX12_here : ByteArray := prog_14_method_14_code
def yX12_here : MethodName := ⟨RX12, "here", "()I"⟩
abbrev cX12_isSmall : ByteArray := prog_14_method_15_code
def yX12_isSmall : MethodName := ⟨RX12, "isSmall", "(I)Z"⟩
abbrev cX12_isDigit : ByteArray := prog_14_method_16_code
def yX12_isDigit : MethodName := ⟨RX12, "isDigit", "(I)Z"⟩
abbrev cX12_word : ByteArray := prog_14_method_17_code
def yX12_word : MethodName := ⟨RX12, "word", "()J"⟩
abbrev cX12_pass : ByteArray := prog_14_method_18_code
def yX12_pass : MethodName := ⟨RX12, "pass", "()V"⟩
abbrev cX12_readNumber : ByteArray := prog_14_method_19_code
def yX12_readNumber : MethodName := ⟨RX12, "readNumber", "()I"⟩
abbrev cX12_need : ByteArray := prog_14_method_20_code
def yX12_need : MethodName := ⟨RX12, "need", "(I)V"⟩
abbrev cX12_emit : ByteArray := prog_14_method_21_code
def yX12_emit : MethodName := ⟨RX12, "emit", "(II)V"⟩
abbrev cX12_opensAt : ByteArray := prog_14_method_22_code
def yX12_opensAt : MethodName := ⟨RX12, "opensAt", "(II)V"⟩
abbrev cX12_closesAt : ByteArray := prog_14_method_23_code
def yX12_closesAt : MethodName := ⟨RX12, "closesAt", "(I)V"⟩
abbrev cX12_name : ByteArray := prog_14_method_24_code
def yX12_name : MethodName := ⟨RX12, "name", "(J)I"⟩
abbrev cX12_unit : ByteArray := prog_14_method_25_code
def yX12_unit : MethodName := ⟨RX12, "unit", "()V"⟩
abbrev cX12_product : ByteArray := prog_14_method_26_code
def yX12_product : MethodName := ⟨RX12, "product", "()V"⟩
abbrev cX12_sum : ByteArray := prog_14_method_27_code
def yX12_sum : MethodName := ⟨RX12, "sum", "()V"⟩
abbrev cX12_anyOf : ByteArray := prog_14_method_28_code
def yX12_anyOf : MethodName := ⟨RX12, "anyOf", "()V"⟩
abbrev cX12_allOf : ByteArray := prog_14_method_29_code
def yX12_allOf : MethodName := ⟨RX12, "allOf", "()V"⟩
abbrev cX12_term : ByteArray := prog_14_method_30_code
def yX12_term : MethodName := ⟨RX12, "term", "()V"⟩
abbrev cX12_readClause : ByteArray := prog_14_method_31_code
def yX12_readClause : MethodName := ⟨RX12, "readClause", "()V"⟩
abbrev cX12_isMore : ByteArray := prog_14_method_32_code
def yX12_isMore : MethodName := ⟨RX12, "isMore", "()Z"⟩
abbrev cX12_rules : ByteArray := prog_14_method_33_code
def yX12_rules : MethodName := ⟨RX12, "rules", "(I)I"⟩
abbrev cX12_fault : ByteArray := prog_14_method_34_code
def yX12_fault : MethodName := ⟨RX12, "fault", "()I"⟩
abbrev cX12_asked : ByteArray := prog_14_method_35_code
def yX12_asked : MethodName := ⟨RX12, "asked", "(III)I"⟩
abbrev cX12_valueOf : ByteArray := prog_14_method_36_code
def yX12_valueOf : MethodName := ⟨RX12, "valueOf", "(IIII)I"⟩
abbrev cX12_two : ByteArray := prog_14_method_37_code
def yX12_two : MethodName := ⟨RX12, "two", "(III)I"⟩
abbrev cX12_applies : ByteArray := prog_14_method_38_code
def yX12_applies : MethodName := ⟨RX12, "applies", "(III)Z"⟩
abbrev cX12_toldAt : ByteArray := prog_14_method_39_code
def yX12_toldAt : MethodName := ⟨RX12, "toldAt", "(II)I"⟩
abbrev cX12_isPassed : ByteArray := prog_14_method_40_code
def yX12_isPassed : MethodName := ⟨RX12, "isPassed", "(II)Z"⟩
abbrev cX12_weightOf : ByteArray := prog_14_method_41_code
def yX12_weightOf : MethodName := ⟨RX12, "weightOf", "(II)I"⟩
abbrev cX12_weighs : ByteArray := prog_14_method_42_code
def yX12_weighs : MethodName := ⟨RX12, "weighs", "()V"⟩
abbrev cX12_weight : ByteArray := prog_14_method_43_code
def yX12_weight : MethodName := ⟨RX12, "weight", "(II)I"⟩
abbrev cX12_why : ByteArray := prog_14_method_44_code
def yX12_why : MethodName := ⟨RX12, "why", "(II)I"⟩
abbrev cX12_weigh : ByteArray := prog_14_method_45_code
def yX12_weigh : MethodName := ⟨RX12, "weigh", "(III)I"⟩
abbrev cX12_forget : ByteArray := prog_14_method_46_code
def yX12_forget : MethodName := ⟨RX12, "forget", "(II)I"⟩
abbrev cX12_law : ByteArray := prog_14_method_47_code
def yX12_law : MethodName := ⟨RX12, "law", "(II)I"⟩
abbrev cX12_fixAt : ByteArray := prog_14_method_48_code
def yX12_fixAt : MethodName := ⟨RX12, "fixAt", "(II)I"⟩
abbrev cX12_fix : ByteArray := prog_14_method_49_code
def yX12_fix : MethodName := ⟨RX12, "fix", "(IIZ)I"⟩
abbrev cX12_loose : ByteArray := prog_14_method_50_code
def yX12_loose : MethodName := ⟨RX12, "loose", "(II)I"⟩
abbrev cX12_number : ByteArray := prog_14_method_51_code
def yX12_number : MethodName := ⟨RX12, "number", "([I)V"⟩
abbrev cX12_costOf : ByteArray := prog_14_method_52_code
def yX12_costOf : MethodName := ⟨RX12, "costOf", "([I)J"⟩
abbrev cX12_barredIn : ByteArray := prog_14_method_53_code
def yX12_barredIn : MethodName := ⟨RX12, "barredIn", "([I)I"⟩
abbrev cX12_fresh : ByteArray := prog_14_method_54_code
def yX12_fresh : MethodName := ⟨RX12, "fresh", "(I)I"⟩
abbrev cX12_copyHand : ByteArray := prog_14_method_55_code
def yX12_copyHand : MethodName := ⟨RX12, "copyHand", "([I)V"⟩
abbrev cX12_takes : ByteArray := prog_14_method_56_code
def yX12_takes : MethodName := ⟨RX12, "takes", "([I)V"⟩
abbrev cX12_put : ByteArray := prog_14_method_57_code
def yX12_put : MethodName := ⟨RX12, "put", "(II)I"⟩
abbrev cX12_sizeOf : ByteArray := prog_14_method_58_code
def yX12_sizeOf : MethodName := ⟨RX12, "sizeOf", "(I)I"⟩
abbrev cX12_alone : ByteArray := prog_14_method_59_code
def yX12_alone : MethodName := ⟨RX12, "alone", "(I)Z"⟩
abbrev cX12_join : ByteArray := prog_14_method_60_code
def yX12_join : MethodName := ⟨RX12, "join", "(II)I"⟩
abbrev cX12_joins : ByteArray := prog_14_method_61_code
def yX12_joins : MethodName := ⟨RX12, "joins", "([III)V"⟩
abbrev cX12_swap : ByteArray := prog_14_method_62_code
def yX12_swap : MethodName := ⟨RX12, "swap", "(II)I"⟩
abbrev cX12_cost : ByteArray := prog_14_method_63_code
def yX12_cost : MethodName := ⟨RX12, "cost", "()J"⟩
abbrev cX12_barred : ByteArray := prog_14_method_64_code
def yX12_barred : MethodName := ⟨RX12, "barred", "()I"⟩
abbrev cX12_tries : ByteArray := prog_14_method_65_code
def yX12_tries : MethodName := ⟨RX12, "tries", "(III)V"⟩
abbrev cX12_findBetter : ByteArray := prog_14_method_66_code
def yX12_findBetter : MethodName := ⟨RX12, "findBetter", "()Z"⟩
abbrev cX12_better : ByteArray := prog_14_method_67_code
def yX12_better : MethodName := ⟨RX12, "better", "(I)J"⟩
abbrev cX12_grow : ByteArray := prog_14_method_68_code
def yX12_grow : MethodName := ⟨RX12, "grow", "(I)I"⟩
abbrev cX12_isAbove : ByteArray := prog_14_method_69_code
def yX12_isAbove : MethodName := ⟨RX12, "isAbove", "(II)Z"⟩
abbrev cX12_isBelow : ByteArray := prog_14_method_70_code
def yX12_isBelow : MethodName := ⟨RX12, "isBelow", "(II)Z"⟩
abbrev cX12_isRing : ByteArray := prog_14_method_71_code
def yX12_isRing : MethodName := ⟨RX12, "isRing", "(III)Z"⟩
abbrev cX12_setRests : ByteArray := prog_14_method_72_code
def yX12_setRests : MethodName := ⟨RX12, "setRests", "([I)V"⟩
abbrev cX12_leastRest : ByteArray := prog_14_method_73_code
def yX12_leastRest : MethodName := ⟨RX12, "leastRest", "([IIII)I"⟩
abbrev cX12_takesRest : ByteArray := prog_14_method_74_code
def yX12_takesRest : MethodName := ⟨RX12, "takesRest", "([IIIII)V"⟩
abbrev cX12_packs : ByteArray := prog_14_method_75_code
def yX12_packs : MethodName := ⟨RX12, "packs", "(I)J"⟩
abbrev cX12_bound : ByteArray := prog_14_method_76_code
def yX12_bound : MethodName := ⟨RX12, "bound", "()J"⟩
abbrev cX12_ring : ByteArray := prog_14_method_77_code
def yX12_ring : MethodName := ⟨RX12, "ring", "(II)I"⟩
abbrev cX12_rings : ByteArray := prog_14_method_78_code
def yX12_rings : MethodName := ⟨RX12, "rings", "()I"⟩
abbrev cX12_untell : ByteArray := prog_14_method_79_code
def yX12_untell : MethodName := ⟨RX12, "untell", "()V"⟩
abbrev cX12_told : ByteArray := prog_14_method_80_code
def yX12_told : MethodName := ⟨RX12, "told", "(IIII)J"⟩
abbrev cX12_everyone : ByteArray := prog_14_method_81_code
def yX12_everyone : MethodName := ⟨RX12, "everyone", "()V"⟩
abbrev cX12_hang : ByteArray := prog_14_method_82_code
def yX12_hang : MethodName := ⟨RX12, "hang", "(II)Z"⟩
abbrev cX12_findPart : ByteArray := prog_14_method_83_code
def yX12_findPart : MethodName := ⟨RX12, "findPart", "(I)V"⟩
abbrev cX12_mayCome : ByteArray := prog_14_method_84_code
def yX12_mayCome : MethodName := ⟨RX12, "mayCome", "(II)Z"⟩
abbrev cX12_adds : ByteArray := prog_14_method_85_code
def yX12_adds : MethodName := ⟨RX12, "adds", "(II)J"⟩
abbrev cX12_isTooDear : ByteArray := prog_14_method_86_code
def yX12_isTooDear : MethodName := ⟨RX12, "isTooDear", "(J)Z"⟩
abbrev cX12_walk : ByteArray := prog_14_method_87_code
def yX12_walk : MethodName := ⟨RX12, "walk", "(IJ)V"⟩
abbrev cX12_maskNow : ByteArray := prog_14_method_88_code
def yX12_maskNow : MethodName := ⟨RX12, "maskNow", "()J"⟩
abbrev cX12_bitOf : ByteArray := prog_14_method_89_code
def yX12_bitOf : MethodName := ⟨RX12, "bitOf", "(II)I"⟩
abbrev cX12_leaf : ByteArray := prog_14_method_90_code
def yX12_leaf : MethodName := ⟨RX12, "leaf", "(J)V"⟩
abbrev cX12_walks : ByteArray := prog_14_method_91_code
def yX12_walks : MethodName := ⟨RX12, "walks", "(I)V"⟩
abbrev cX12_bests : ByteArray := prog_14_method_92_code
def yX12_bests : MethodName := ⟨RX12, "bests", "()I"⟩
abbrev cX12_partOf : ByteArray := prog_14_method_93_code
def yX12_partOf : MethodName := ⟨RX12, "partOf", "(I)I"⟩
abbrev cX12_heapNumber : ByteArray := prog_14_method_94_code
def yX12_heapNumber : MethodName := ⟨RX12, "heapNumber", "([II)I"⟩
abbrev cX12_place : ByteArray := prog_14_method_95_code
def yX12_place : MethodName := ⟨RX12, "place", "(I)I"⟩
abbrev cX12_best : ByteArray := prog_14_method_96_code
def yX12_best : MethodName := ⟨RX12, "best", "(I)J"⟩
abbrev cX12_many : ByteArray := prog_14_method_97_code
def yX12_many : MethodName := ⟨RX12, "many", "(I)I"⟩
abbrev cX12_first : ByteArray := prog_14_method_98_code
def yX12_first : MethodName := ⟨RX12, "first", "(I)I"⟩
abbrev cX12_findAll : ByteArray := prog_14_method_99_code
def yX12_findAll : MethodName := ⟨RX12, "findAll", "([I)J"⟩
abbrev cX12_all : ByteArray := prog_14_method_100_code
def yX12_all : MethodName := ⟨RX12, "all", "()J"⟩
abbrev cX12_take : ByteArray := prog_14_method_101_code
def yX12_take : MethodName := ⟨RX12, "take", "()I"⟩
abbrev cX12_areOfOne : ByteArray := prog_14_method_102_code
def yX12_areOfOne : MethodName := ⟨RX12, "areOfOne", "(II)Z"⟩
abbrev cX12_always : ByteArray := prog_14_method_103_code
def yX12_always : MethodName := ⟨RX12, "always", "(II)I"⟩
abbrev cX12_edgeOf : ByteArray := prog_14_method_104_code
def yX12_edgeOf : MethodName := ⟨RX12, "edgeOf", "(II)J"⟩
abbrev cX12_edge : ByteArray := prog_14_method_105_code
def yX12_edge : MethodName := ⟨RX12, "edge", "(II)J"⟩
abbrev cX12_holds : ByteArray := prog_14_method_106_code
def yX12_holds : MethodName := ⟨RX12, "holds", "(III)I"⟩
abbrev cX12_bits : ByteArray := prog_14_method_107_code
def yX12_bits : MethodName := ⟨RX12, "bits", "(J)I"⟩
abbrev cX12_freeIn : ByteArray := prog_14_method_108_code
def yX12_freeIn : MethodName := ⟨RX12, "freeIn", "(IJ)I"⟩
abbrev cX12_asked_ : ByteArray := prog_14_method_109_code
def yX12_asked_ : MethodName := ⟨RX12, "asked", "(I)I"⟩
abbrev cX12_findNear : ByteArray := prog_14_method_110_code
def yX12_findNear : MethodName := ⟨RX12, "findNear", "(II)I"⟩
abbrev cX12_near : ByteArray := prog_14_method_111_code
def yX12_near : MethodName := ⟨RX12, "near", "(II)I"⟩
abbrev cX12_nearest : ByteArray := prog_14_method_112_code
def yX12_nearest : MethodName := ⟨RX12, "nearest", "(II)I"⟩
abbrev cX12_findWithout : ByteArray := prog_14_method_113_code
def yX12_findWithout : MethodName := ⟨RX12, "findWithout", "(I[I)J"⟩
abbrev cX12_without : ByteArray := prog_14_method_114_code
def yX12_without : MethodName := ⟨RX12, "without", "(I)J"⟩
abbrev cX12_stands : ByteArray := prog_14_method_115_code
def yX12_stands : MethodName := ⟨RX12, "stands", "(I)I"⟩
abbrev cX12_isHeap : ByteArray := prog_14_method_116_code
def yX12_isHeap : MethodName := ⟨RX12, "isHeap", "(II)Z"⟩
abbrev cX12_mark : ByteArray := prog_14_method_117_code
def yX12_mark : MethodName := ⟨RX12, "mark", "()I"⟩
abbrev cX12_back : ByteArray := prog_14_method_118_code
def yX12_back : MethodName := ⟨RX12, "back", "()I"⟩
abbrev cX12_count : ByteArray := prog_14_method_119_code
def yX12_count : MethodName := ⟨RX12, "count", "(I)I"⟩
def RJx145de : String := "java/io/Serializable"
def RJx9f9b0 : String := "java/lang/CharSequence"
def RJxb160c : String := "java/lang/Comparable"
def RJ6 : String := "java/lang/Integer"
abbrev cJ6_numberOfTrailingZeros_0f7a4 : ByteArray := prog_20_method_48_code
def yJ6_numberOfTrailingZeros_0f7a4 : MethodName := ⟨RJ6, "numberOfTrailingZeros", "(I)I"⟩
abbrev cJ6_bitCount_0f7a4 : ByteArray := prog_20_method_49_code
def yJ6_bitCount_0f7a4 : MethodName := ⟨RJ6, "bitCount", "(I)I"⟩
def RJ13 : String := "java/lang/Long"
abbrev cJ13_bitCount_95d88 : ByteArray := prog_21_method_50_code
def yJ13_bitCount_95d88 : MethodName := ⟨RJ13, "bitCount", "(J)I"⟩
def RJ9 : String := "java/lang/Math"
abbrev cJ9_abs_0f7a4 : ByteArray := prog_22_method_59_code
def yJ9_abs_0f7a4 : MethodName := ⟨RJ9, "abs", "(I)I"⟩
abbrev cJ9_max_7cf53 : ByteArray := prog_22_method_65_code
def yJ9_max_7cf53 : MethodName := ⟨RJ9, "max", "(II)I"⟩
abbrev cJ9_min_7cf53 : ByteArray := prog_22_method_69_code
def yJ9_min_7cf53 : MethodName := ⟨RJ9, "min", "(II)I"⟩
def RJ0 : String := "java/lang/String"
abbrev cJ0_length_8abf5 : ByteArray := prog_24_method_54_code
def yJ0_length_8abf5 : MethodName := ⟨RJ0, "length", "()I"⟩
abbrev cJ0_charAt_5068e : ByteArray := prog_24_method_56_code
def yJ0_charAt_5068e : MethodName := ⟨RJ0, "charAt", "(I)C"⟩
abbrev cJ0_coder_7d493 : ByteArray := prog_24_method_152_code
def yJ0_coder_7d493 : MethodName := ⟨RJ0, "coder", "()B"⟩
abbrev cJ0_isLatin1_aae02 : ByteArray := prog_24_method_154_code
def yJ0_isLatin1_aae02 : MethodName := ⟨RJ0, "isLatin1", "()Z"⟩
abbrev cJ0_checkIndex_df160 : ByteArray := prog_24_method_155_code
def yJ0_checkIndex_df160 : MethodName := ⟨RJ0, "checkIndex", "(II)V"⟩
def RJ1 : String := "java/lang/StringLatin1"
abbrev cJ1_charAt_3b067 : ByteArray := prog_25_method_2_code
def yJ1_charAt_3b067 : MethodName := ⟨RJ1, "charAt", "([BI)C"⟩
def RJ2 : String := "java/lang/StringUTF16"
abbrev cJ2_getChar_3b067 : ByteArray := prog_26_method_5_code
def yJ2_getChar_3b067 : MethodName := ⟨RJ2, "getChar", "([BI)C"⟩
abbrev cJ2_length_9d52b : ByteArray := prog_26_method_6_code
def yJ2_length_9d52b : MethodName := ⟨RJ2, "length", "([B)I"⟩
abbrev cJ2_charAt_3b067 : ByteArray := prog_26_method_83_code
def yJ2_charAt_3b067 : MethodName := ⟨RJ2, "charAt", "([BI)C"⟩
abbrev cJ2_checkIndex_2214a : ByteArray := prog_26_method_91_code
def yJ2_checkIndex_2214a : MethodName := ⟨RJ2, "checkIndex", "(I[B)V"⟩
def RJ10 : String := "java/lang/System"
def RJxfd54e : String := "java/lang/constant/Constable"
def RJx3cf43 : String := "java/lang/constant/ConstantDesc"
def RJ7 : String := "java/util/Arrays"
abbrev cJ7_fill_53178 : ByteArray := prog_31_method_103_code
def yJ7_fill_53178 : MethodName := ⟨RJ7, "fill", "([II)V"⟩
def RJ3 : String := "jdk/internal/util/Preconditions"
abbrev cJ3_checkIndex_8e157 : ByteArray := prog_33_method_11_code
def yJ3_checkIndex_8e157 : MethodName := ⟨RJ3, "checkIndex", "(IILjava/util/function/BiFunction;)I"⟩
def RL : String := "SlipHeapsLaw"
abbrev cL_entry : ByteArray := method_3_code
def yL_entry : MethodName := ⟨RL, "entry", "(LSlipHeaps;IIIII[J)I"⟩
abbrev cL_of : ByteArray := method_4_code
def yL_of : MethodName := ⟨RL, "of", "(LSlipHeaps;II[J)I"⟩
abbrev cL_like : ByteArray := method_5_code
def yL_like : MethodName := ⟨RL, "like", "(LSlipHeaps;III[J)I"⟩
abbrev cL_rules : ByteArray := method_6_code
def yL_rules : MethodName := ⟨RL, "rules", "(LSlipHeaps;I[J)I"⟩
abbrev cL_weight : ByteArray := method_7_code
def yL_weight : MethodName := ⟨RL, "weight", "(LSlipHeaps;II[J)I"⟩
abbrev cL_why : ByteArray := method_8_code
def yL_why : MethodName := ⟨RL, "why", "(LSlipHeaps;II[J)I"⟩
abbrev cL_weigh : ByteArray := method_9_code
def yL_weigh : MethodName := ⟨RL, "weigh", "(LSlipHeaps;III[J)I"⟩
abbrev cL_forget : ByteArray := method_10_code
def yL_forget : MethodName := ⟨RL, "forget", "(LSlipHeaps;II[J)I"⟩
abbrev cL_law : ByteArray := method_11_code
def yL_law : MethodName := ⟨RL, "law", "(LSlipHeaps;II[J)I"⟩
abbrev cL_fix : ByteArray := method_12_code
def yL_fix : MethodName := ⟨RL, "fix", "(LSlipHeaps;IIZ[J)I"⟩
abbrev cL_loose : ByteArray := method_13_code
def yL_loose : MethodName := ⟨RL, "loose", "(LSlipHeaps;II[J)I"⟩
abbrev cL_put : ByteArray := method_14_code
def yL_put : MethodName := ⟨RL, "put", "(LSlipHeaps;II[J)I"⟩
abbrev cL_alone : ByteArray := method_15_code
def yL_alone : MethodName := ⟨RL, "alone", "(LSlipHeaps;I[J)I"⟩
abbrev cL_join : ByteArray := method_16_code
def yL_join : MethodName := ⟨RL, "join", "(LSlipHeaps;II[J)I"⟩
abbrev cL_swap : ByteArray := method_17_code
def yL_swap : MethodName := ⟨RL, "swap", "(LSlipHeaps;II[J)I"⟩
abbrev cL_better : ByteArray := method_18_code
def yL_better : MethodName := ⟨RL, "better", "(LSlipHeaps;I[J)I"⟩
abbrev cL_grow : ByteArray := method_19_code
def yL_grow : MethodName := ⟨RL, "grow", "(LSlipHeaps;I[J)I"⟩
abbrev cL_ring : ByteArray := method_20_code
def yL_ring : MethodName := ⟨RL, "ring", "(LSlipHeaps;II[J)I"⟩
abbrev cL_told : ByteArray := method_21_code
def yL_told : MethodName := ⟨RL, "told", "(LSlipHeaps;IIII[J)I"⟩
abbrev cL_best : ByteArray := method_22_code
def yL_best : MethodName := ⟨RL, "best", "(LSlipHeaps;I[J)I"⟩
abbrev cL_many : ByteArray := method_23_code
def yL_many : MethodName := ⟨RL, "many", "(LSlipHeaps;I[J)I"⟩
abbrev cL_first : ByteArray := method_24_code
def yL_first : MethodName := ⟨RL, "first", "(LSlipHeaps;I[J)I"⟩
abbrev cL_always : ByteArray := method_25_code
def yL_always : MethodName := ⟨RL, "always", "(LSlipHeaps;II[J)I"⟩
abbrev cL_edge : ByteArray := method_26_code
def yL_edge : MethodName := ⟨RL, "edge", "(LSlipHeaps;II[J)I"⟩
abbrev cL_holds : ByteArray := method_27_code
def yL_holds : MethodName := ⟨RL, "holds", "(LSlipHeaps;III[J)I"⟩
abbrev cL_asked : ByteArray := method_28_code
def yL_asked : MethodName := ⟨RL, "asked", "(LSlipHeaps;I[J)I"⟩
abbrev cL_near : ByteArray := method_29_code
def yL_near : MethodName := ⟨RL, "near", "(LSlipHeaps;II[J)I"⟩
abbrev cL_nearest : ByteArray := method_30_code
def yL_nearest : MethodName := ⟨RL, "nearest", "(LSlipHeaps;II[J)I"⟩
abbrev cL_without : ByteArray := method_31_code
def yL_without : MethodName := ⟨RL, "without", "(LSlipHeaps;I[J)I"⟩
abbrev cL_stands : ByteArray := method_32_code
def yL_stands : MethodName := ⟨RL, "stands", "(LSlipHeaps;I[J)I"⟩
abbrev cL_law_ : ByteArray := code
def yL_law_ : MethodName := ⟨RL, "law", "([I)Z"⟩
def BIG : List Cond := lw_tbl.filter goodWord
theorem big_of {w : Cond} (h : w ∈ lw_tbl) (g : goodWord w = true) : w ∈ BIG := List.mem_filter.mpr ⟨h, g⟩
theorem big_good : ∀ w ∈ BIG, goodWord w = true := fun _ h => (List.mem_filter.mp h).2
theorem tb_1 {w : Cond} (i : Nat) (h : tables_1_1[i]? = some w) (g : goodWord w = true) : w ∈ BIG := big_of (List.mem_append_right _ (by have h := List.mem_of_getElem? h; exact List.mem_append_left _ h)) g
theorem tb_2 {w : Cond} (i : Nat) (h : tables_1_2[i]? = some w) (g : goodWord w = true) : w ∈ BIG := big_of (List.mem_append_right _ (by have h := List.mem_of_getElem? h; exact List.mem_append_right _ (List.mem_append_left _ h))) g
theorem tb_3 {w : Cond} (i : Nat) (h : tables_1_3[i]? = some w) (g : goodWord w = true) : w ∈ BIG := big_of (List.mem_append_right _ (by have h := List.mem_of_getElem? h; exact List.mem_append_right _ (List.mem_append_right _ (List.mem_append_left _ h)))) g
theorem tb_4 {w : Cond} (i : Nat) (h : tables_1_4[i]? = some w) (g : goodWord w = true) : w ∈ BIG := big_of (List.mem_append_right _ (by have h := List.mem_of_getElem? h; exact List.mem_append_right _ (List.mem_append_right _ (List.mem_append_right _ (List.mem_append_left _ h))))) g
theorem tb_5 {w : Cond} (i : Nat) (h : tables_1_5[i]? = some w) (g : goodWord w = true) : w ∈ BIG := big_of (List.mem_append_right _ (by have h := List.mem_of_getElem? h; exact List.mem_append_right _ (List.mem_append_right _ (List.mem_append_right _ (List.mem_append_right _ (List.mem_append_left _ h)))))) g
theorem tb_6 {w : Cond} (i : Nat) (h : tables_1_6[i]? = some w) (g : goodWord w = true) : w ∈ BIG := big_of (List.mem_append_right _ (by have h := List.mem_of_getElem? h; exact List.mem_append_right _ (List.mem_append_right _ (List.mem_append_right _ (List.mem_append_right _ (List.mem_append_right _ (List.mem_append_left _ h))))))) g
theorem tb_7 {w : Cond} (i : Nat) (h : tables_1_7[i]? = some w) (g : goodWord w = true) : w ∈ BIG := big_of (List.mem_append_right _ (by have h := List.mem_of_getElem? h; exact List.mem_append_right _ (List.mem_append_right _ (List.mem_append_right _ (List.mem_append_right _ (List.mem_append_right _ (List.mem_append_right _ (List.mem_append_left _ h)))))))) g
theorem tb_8 {w : Cond} (i : Nat) (h : tables_1_8[i]? = some w) (g : goodWord w = true) : w ∈ BIG := big_of (List.mem_append_right _ (by have h := List.mem_of_getElem? h; exact List.mem_append_right _ (List.mem_append_right _ (List.mem_append_right _ (List.mem_append_right _ (List.mem_append_right _ (List.mem_append_right _ (List.mem_append_right _ (List.mem_append_left _ h))))))))) g
theorem tb_9 {w : Cond} (i : Nat) (h : tables_1_9[i]? = some w) (g : goodWord w = true) : w ∈ BIG := big_of (List.mem_append_right _ (by have h := List.mem_of_getElem? h; exact List.mem_append_right _ (List.mem_append_right _ (List.mem_append_right _ (List.mem_append_right _ (List.mem_append_right _ (List.mem_append_right _ (List.mem_append_right _ (List.mem_append_right _ (List.mem_append_left _ h)))))))))) g
theorem tb_10 {w : Cond} (i : Nat) (h : tables_1_10[i]? = some w) (g : goodWord w = true) : w ∈ BIG := big_of (List.mem_append_right _ (by have h := List.mem_of_getElem? h; exact List.mem_append_right _ (List.mem_append_right _ (List.mem_append_right _ (List.mem_append_right _ (List.mem_append_right _ (List.mem_append_right _ (List.mem_append_right _ (List.mem_append_right _ (List.mem_append_right _ (h))))))))))) g
theorem tb_p {w : Cond} (i : Nat) (h : (k2_sels lw_privs)[i]? = some w) (g : goodWord w = true) : w ∈ BIG := big_of (List.mem_append_left _ (List.mem_of_getElem? h)) g
theorem hb_1 : ∀ w ∈ tables_1_1, w ∈ lw_tbl := fun w h => List.mem_append_right _ (by exact List.mem_append_left _ h)
theorem hb_2 : ∀ w ∈ tables_1_2, w ∈ lw_tbl := fun w h => List.mem_append_right _ (by exact List.mem_append_right _ (List.mem_append_left _ h))
theorem hb_3 : ∀ w ∈ tables_1_3, w ∈ lw_tbl := fun w h => List.mem_append_right _ (by exact List.mem_append_right _ (List.mem_append_right _ (List.mem_append_left _ h)))
theorem hb_4 : ∀ w ∈ tables_1_4, w ∈ lw_tbl := fun w h => List.mem_append_right _ (by exact List.mem_append_right _ (List.mem_append_right _ (List.mem_append_right _ (List.mem_append_left _ h))))
theorem hb_5 : ∀ w ∈ tables_1_5, w ∈ lw_tbl := fun w h => List.mem_append_right _ (by exact List.mem_append_right _ (List.mem_append_right _ (List.mem_append_right _ (List.mem_append_right _ (List.mem_append_left _ h)))))
theorem hb_6 : ∀ w ∈ tables_1_6, w ∈ lw_tbl := fun w h => List.mem_append_right _ (by exact List.mem_append_right _ (List.mem_append_right _ (List.mem_append_right _ (List.mem_append_right _ (List.mem_append_right _ (List.mem_append_left _ h))))))
theorem hb_7 : ∀ w ∈ tables_1_7, w ∈ lw_tbl := fun w h => List.mem_append_right _ (by exact List.mem_append_right _ (List.mem_append_right _ (List.mem_append_right _ (List.mem_append_right _ (List.mem_append_right _ (List.mem_append_right _ (List.mem_append_left _ h)))))))
theorem hb_8 : ∀ w ∈ tables_1_8, w ∈ lw_tbl := fun w h => List.mem_append_right _ (by exact List.mem_append_right _ (List.mem_append_right _ (List.mem_append_right _ (List.mem_append_right _ (List.mem_append_right _ (List.mem_append_right _ (List.mem_append_right _ (List.mem_append_left _ h))))))))
theorem hb_9 : ∀ w ∈ tables_1_9, w ∈ lw_tbl := fun w h => List.mem_append_right _ (by exact List.mem_append_right _ (List.mem_append_right _ (List.mem_append_right _ (List.mem_append_right _ (List.mem_append_right _ (List.mem_append_right _ (List.mem_append_right _ (List.mem_append_right _ (List.mem_append_left _ h)))))))))
theorem hb_10 : ∀ w ∈ tables_1_10, w ∈ lw_tbl := fun w h => List.mem_append_right _ (by exact List.mem_append_right _ (List.mem_append_right _ (List.mem_append_right _ (List.mem_append_right _ (List.mem_append_right _ (List.mem_append_right _ (List.mem_append_right _ (List.mem_append_right _ (List.mem_append_right _ (h))))))))))
theorem hb_p : ∀ w ∈ k2_sels lw_privs, w ∈ lw_tbl := fun w h => List.mem_append_left _ h
theorem in_tb {L ws : List Cond} (hL : ∀ w ∈ L, w ∈ lw_tbl) (ps : List Nat) (hp : ws = ps.filterMap (fun i => L[i]?)) (h : ws.all goodWord = true) : ∀ w ∈ ws, w ∈ BIG := by
  intro w hw
  have h1 := List.all_eq_true.mp h w hw
  rw [hp] at hw
  obtain ⟨i, -, hi⟩ := List.mem_filterMap.mp hw
  exact big_of (hL w (List.mem_of_getElem? hi)) h1
abbrev classes : List vw_C := [(RX0, TX0, 11), (RX1, TX1, 3), (RX2, TX2, 8), (RX3, TX3, 8), (RX4, TX4, 9), (RX5, TX5, 9), (RX6, TX6, 5), (RX7, TX7, 10), (RX8, TX8, 7), (RX9, TX9, 12), (RX10, TX10, 16), (RX11, TX11, 12), (RX12, TX12, 91)]
def gty (ci : Nat) : Nat → FieldType := match ci with
  | 0 => tyX0
  | 1 => tyX1
  | 2 => tyX2
  | 3 => tyX3
  | 4 => tyX4
  | 5 => tyX5
  | 6 => tyX6
  | 7 => tyX7
  | 8 => tyX8
  | 9 => tyX9
  | 10 => tyX10
  | 11 => tyX11
  | 12 => tyX12
  | _ => fun _ => .int
def gNL : List Nat := [11, 3, 8, 8, 9, 9, 5, 10, 7, 12, 16, 12, 91]
def gcn (ci : Nat) : String := match ci with
  | 0 => RX0
  | 1 => RX1
  | 2 => RX2
  | 3 => RX3
  | 4 => RX4
  | 5 => RX5
  | 6 => RX6
  | 7 => RX7
  | 8 => RX8
  | 9 => RX9
  | 10 => RX10
  | 11 => RX11
  | 12 => RX12
  | _ => ""
def gcT (ci : Nat) : u_T := match ci with
  | 0 => TX0
  | 1 => TX1
  | 2 => TX2
  | 3 => TX3
  | 4 => TX4
  | 5 => TX5
  | 6 => TX6
  | 7 => TX7
  | 8 => TX8
  | 9 => TX9
  | 10 => TX10
  | 11 => TX11
  | 12 => TX12
  | _ => TX0
theorem in_of {ws : List Cond} (ps : List Nat) (hp : ws = ps.filterMap (fun i => lw_tbl[i]?)) (h : ws.all goodWord = true) : ∀ w ∈ ws, w ∈ BIG := by
  intro w hw
  have h1 := List.all_eq_true.mp h w hw
  rw [hp] at hw
  obtain ⟨i, -, hi⟩ := List.mem_filterMap.mp hw
  exact big_of (List.mem_of_getElem? hi) h1
set_option maxRecDepth 20000 in
theorem inX0 : ∀ w ∈ u_ws RX0 TX0 11, w ∈ BIG := in_of [403, 405, 407, 409, 411, 413, 415, 417, 419, 421, 423] (by decide +kernel) (by decide +kernel)
set_option maxRecDepth 20000 in
theorem inX1 : ∀ w ∈ u_ws RX1 TX1 3, w ∈ BIG := in_of [174, 176, 178] (by decide +kernel) (by decide +kernel)
set_option maxRecDepth 20000 in
theorem inX2 : ∀ w ∈ u_ws RX2 TX2 8, w ∈ BIG := in_of [365, 367, 369, 371, 373, 375, 377, 379] (by decide +kernel) (by decide +kernel)
set_option maxRecDepth 20000 in
theorem inX3 : ∀ w ∈ u_ws RX3 TX3 8, w ∈ BIG := in_of [330, 332, 334, 336, 338, 340, 342, 344] (by decide +kernel) (by decide +kernel)
set_option maxRecDepth 20000 in
theorem inX4 : ∀ w ∈ u_ws RX4 TX4 9, w ∈ BIG := in_of [292, 294, 296, 298, 300, 302, 304, 306, 308] (by decide +kernel) (by decide +kernel)
set_option maxRecDepth 20000 in
theorem inX5 : ∀ w ∈ u_ws RX5 TX5 9, w ∈ BIG := in_of [501, 503, 505, 507, 509, 511, 513, 515, 517] (by decide +kernel) (by decide +kernel)
set_option maxRecDepth 20000 in
theorem inX6 : ∀ w ∈ u_ws RX6 TX6 5, w ∈ BIG := in_of [469, 471, 473, 475, 477] (by decide +kernel) (by decide +kernel)
set_option maxRecDepth 20000 in
theorem inX7 : ∀ w ∈ u_ws RX7 TX7 10, w ∈ BIG := in_of [250, 252, 254, 256, 258, 260, 262, 264, 266, 268] (by decide +kernel) (by decide +kernel)
set_option maxRecDepth 20000 in
theorem inX8 : ∀ w ∈ u_ws RX8 TX8 7, w ∈ BIG := in_of [442, 444, 446, 448, 450, 452, 454] (by decide +kernel) (by decide +kernel)
set_option maxRecDepth 20000 in
theorem inX9 : ∀ w ∈ u_ws RX9 TX9 12, w ∈ BIG := in_of [211, 213, 215, 217, 219, 221, 223, 225, 227, 229, 231, 233] (by decide +kernel) (by decide +kernel)
set_option maxRecDepth 20000 in
theorem inX10 : ∀ w ∈ u_ws RX10 TX10 16, w ∈ BIG := in_of [545, 547, 549, 551, 553, 555, 557, 559, 561, 563, 565, 567, 569, 571, 573, 575] (by decide +kernel) (by decide +kernel)
set_option maxRecDepth 20000 in
theorem inX11 : ∀ w ∈ u_ws RX11 TX11 12, w ∈ BIG := in_of [591, 593, 595, 597, 599, 601, 603, 605, 607, 609, 611, 613] (by decide +kernel) (by decide +kernel)
set_option maxRecDepth 20000 in
theorem inX12 : ∀ w ∈ u_ws RX12 TX12 91, w ∈ BIG := in_of [1733, 1735, 1737, 1739, 1741, 1743, 1745, 1747, 1749, 1751, 1753, 1755, 1757, 1759, 1761, 1763, 1765, 1767, 1769, 1771, 1773, 1775, 1777, 1779, 1781, 1783, 1785, 1787, 1789, 1791, 1793, 1795, 1797, 1799, 1801, 1803, 1805, 1807, 1809, 1811, 1813, 1815, 1817, 1819, 1821, 1823, 1825, 1827, 1829, 1831, 1833, 1835, 1837, 1839, 1841, 1843, 1845, 1847, 1849, 1851, 1853, 1855, 1857, 1859, 1861, 1863, 1865, 1867, 1869, 1871, 1873, 1875, 1877, 1879, 1881, 1883, 1885, 1887, 1889, 1891, 1893, 1895, 1897, 1899, 1901, 1903, 1905, 1907, 1909, 1911, 1913] (by decide +kernel) (by decide +kernel)
theorem gin {ci : Nat} (h : classes[ci]? = some (gcn ci, gcT ci, gNL.getD ci 0)) : ∀ w ∈ u_ws (gcn ci) (gcT ci) (gNL.getD ci 0), w ∈ BIG := by
  match ci, h with
  | 0, _ => exact inX0
  | 1, _ => exact inX1
  | 2, _ => exact inX2
  | 3, _ => exact inX3
  | 4, _ => exact inX4
  | 5, _ => exact inX5
  | 6, _ => exact inX6
  | 7, _ => exact inX7
  | 8, _ => exact inX8
  | 9, _ => exact inX9
  | 10, _ => exact inX10
  | 11, _ => exact inX11
  | 12, _ => exact inX12
  | n + 13, h => simp [classes] at h
theorem gty_all (ci : Nat) (h : classes[ci]? = some (gcn ci, gcT ci, gNL.getD ci 0)) : ∀ j, j < gNL.getD ci 0 → parseFieldDescriptor (gcT ci j).2.2.1 = some (gty ci j) := by
  match ci, h with
  | 0, _ => exact tyX0_ok
  | 1, _ => exact tyX1_ok
  | 2, _ => exact tyX2_ok
  | 3, _ => exact tyX3_ok
  | 4, _ => exact tyX4_ok
  | 5, _ => exact tyX5_ok
  | 6, _ => exact tyX6_ok
  | 7, _ => exact tyX7_ok
  | 8, _ => exact tyX8_ok
  | 9, _ => exact tyX9_ok
  | 10, _ => exact tyX10_ok
  | 11, _ => exact tyX11_ok
  | 12, _ => exact tyX12_ok
  | n + 13, h => simp [classes] at h
theorem gnm (ci : Nat) (h : classes[ci]? = some (gcn ci, gcT ci, gNL.getD ci 0)) : ∀ a, a < gNL.getD ci 0 → ∀ b, b < gNL.getD ci 0 → a ≠ b → (gcT ci a).2.1 ≠ (gcT ci b).2.1 := by
  match ci, h with
  | 0, _ => exact nmX0
  | 1, _ => exact nmX1
  | 2, _ => exact nmX2
  | 3, _ => exact nmX3
  | 4, _ => exact nmX4
  | 5, _ => exact nmX5
  | 6, _ => exact nmX6
  | 7, _ => exact nmX7
  | 8, _ => exact nmX8
  | 9, _ => exact nmX9
  | 10, _ => exact nmX10
  | 11, _ => exact nmX11
  | 12, _ => exact nmX12
  | n + 13, h => simp [classes] at h
theorem dk_get {cc : ByteArray} {L : List (Nat × Instr × Nat)} (h : L.all (fun q => decide (decode cc q.1 = .ok q.2)) = true) (i : Nat) {pc : Nat} {r : Instr × Nat} (hi : L[i]? = some (pc, r)) : decode cc pc = .ok r := by
  have h1 := List.all_eq_true.mp h _ (List.mem_of_getElem? hi)
  simpa using h1
def layL : List (Nat × Nat) := [(14, 0), (4, 0), (0, 150), (0, 256), (10, 0), (12, 0), (0, 16), (0, 17), (0, 16), (0, 400), (0, 400), (0, 64), (0, 400), (0, 401), (0, 401), (0, 401), (7, 0), (12, 0), (0, 16), (0, 17), (0, 16), (0, 400), (0, 400), (0, 64), (0, 900), (0, 900), (0, 30), (0, 30), (0, 30), (0, 6), (6, 0), (0, 30), (0, 30), (5, 0), (0, 30), (0, 31), (0, 180), (0, 6), (3, 0), (0, 30), (0, 30), (0, 900), (11, 0), (0, 900), (0, 900), (0, 4), (9, 0), (0, 30), (0, 30), (0, 30), (8, 0), (0, 10), (0, 100), (0, 10), (0, 10), (0, 10), (13, 0), (0, 11), (0, 10), (0, 10), (0, 10), (0, 10), (1, 200), (0, 30), (0, 30), (15, 0), (0, 30), (0, 30), (0, 30), (0, 30), (0, 30), (0, 30), (0, 256), (0, 400), (0, 16), (0, 16), (0, 16), (0, 16), (0, 400), (0, 400), (0, 16), (0, 16), (0, 16), (0, 16), (0, 400), (0, 400), (0, 220), (0, 60), (0, 60), (0, 60), (0, 900), (2, 900), (2, 900), (2, 900), (0, 20), (0, 20), (2, 20), (0, 30), (0, 30), (0, 30), (0, 900), (0, 900), (0, 4), (2, 30), (2, 30), (0, 30), (0, 10), (0, 10), (0, 10), (0, 10), (1, 200), (0, 30), (0, 30), (0, 6), (0, 180), (1, 1)]
def gNst : List (String × Nat × MethodName × String) := [(RX11, 11, yX1_init, "SlipHeaps"), (RX11, 20, yX7_init, "SlipHeaps"), (RX0, 51, yX11_setBit, "SlipHeaps"), (RX3, 36, yX11_setBit, "SlipHeaps"), (RX4, 11, yX9_init, "SlipHeaps"), (RX4, 58, yX11_setBit, "SlipHeaps"), (RX5, 64, yX11_setBit, "SlipHeaps"), (RX7, 17, yX9_init, "SlipHeaps")]
def strI : List Nat := [94, 96, 98, 100, 102, 104, 106, 108, 110, 112, 114, 116, 118, 120, 122, 124]
def strT : List String := ["like", "years", "trade", "book", "father", "other", "least", "most", "for", "against", "never", "look", "if", "or", "and", "not"]
def strN : List Nat := [4, 5, 5, 4, 6, 5, 5, 4, 3, 7, 5, 4, 2, 2, 3, 3]
def strB : List (List Int32) := [[108, 105, 107, 101], [121, 101, 97, 114, 115], [116, 114, 97, 100, 101], [98, 111, 111, 107], [102, 97, 116, 104, 101, 114], [111, 116, 104, 101, 114], [108, 101, 97, 115, 116], [109, 111, 115, 116], [102, 111, 114], [97, 103, 97, 105, 110, 115, 116], [110, 101, 118, 101, 114], [108, 111, 111, 107], [105, 102], [111, 114], [97, 110, 100], [110, 111, 116]]
/-! links by place: FL a field's, LV LS LN a call's -/
def FL (own : String) (i ci j : Nat) : Prop := Cond.fieldLink own i (gcT ci j).1 (gcT ci j).2.1 (gcT ci j).2.2.1 ∈ BIG ∧ classes[ci]? = some (gcn ci, gcT ci, gNL.getD ci 0) ∧ j < gNL.getD ci 0
abbrev gM : Type := MethodName × ByteArray × Nat × Option FieldType × Nat
def MI (M : gM) : Prop := Cond.code M.1 M.2.1 M.2.2.1 M.2.2.2.1 ∈ BIG ∧ plainName M.1.cls = true ∧ (M.1.cls ≠ "java/lang/invoke/MethodHandle" ∧ M.1.cls ≠ "java/lang/invoke/VarHandle" ∧ (parseMethodDescriptor M.1.desc).map (fun d => d.parameters.length) = some M.2.2.2.2) ∧ Cond.initialized M.1.cls ∈ BIG
def LV (own : String) (i : Nat) (M : gM) : Prop := Cond.methodLink own i M.1 ∈ BIG ∧ Cond.instanceMethod M.1 ∈ BIG ∧ Cond.selects M.1.cls M.1 M.1 ∈ BIG
def LSt (own : String) (i : Nat) (M : gM) : Prop := Cond.methodLink own i M.1 ∈ BIG ∧ Cond.static M.1 ∈ BIG
def LI (own : String) (i : Nat) (M : gM) : Prop := Cond.methodLink own i M.1 ∈ BIG ∧ Cond.instanceMethod M.1 ∈ BIG ∧ M.1.name = "<init>"
def LIN (own : String) (i : Nat) (host : String) (M : gM) : Prop := (own, i, M.1, host) ∈ gNst ∧ Cond.instanceMethod M.1 ∈ BIG ∧ M.1.name = "<init>"
def LSN (own : String) (i : Nat) (host : String) (M : gM) : Prop := (own, i, M.1, host) ∈ gNst ∧ Cond.static M.1 ∈ BIG
