section
-- ===== PART A: goes FIRST, ahead of the names: the tables' words, and 'selects' of the private methods out of them =====
/-- a private method of a class that the tables say can be made, by its rows of tables_1 -/
def lw_okq (q : MethodName × Nat) : Prop := (q.1.cls ≠ "java/lang/invoke/MethodHandle" ∧ q.1.cls ≠ "java/lang/invoke/VarHandle") ∧ Cond.instantiable q.1.cls q.2 ∈ tables_1 ∧ Cond.privateMethod q.1 ∈ tables_1 ∧ Cond.instanceMethod q.1 ∈ tables_1
theorem lw_p0 : lw_okq (⟨"BellRibbons", "mayHang", "(IIII)Z"⟩, 12) := ⟨⟨by decide +kernel, by decide +kernel⟩, List.mem_of_getElem? (i := 17) (by decide +kernel), List.mem_of_getElem? (i := 526) (by decide +kernel), List.mem_of_getElem? (i := 527) (by decide +kernel)⟩
theorem lw_p1 : lw_okq (⟨"BellRibbons$LawReader", "readClause", "()Z"⟩, 5) := ⟨⟨by decide +kernel, by decide +kernel⟩, List.mem_of_getElem? (i := 198) (by decide +kernel), List.mem_of_getElem? (i := 572) (by decide +kernel), List.mem_of_getElem? (i := 573) (by decide +kernel)⟩
theorem lw_p2 : lw_okq (⟨"BellRibbons$LawReader", "next", "()I"⟩, 5) := ⟨⟨by decide +kernel, by decide +kernel⟩, List.mem_of_getElem? (i := 198) (by decide +kernel), List.mem_of_getElem? (i := 576) (by decide +kernel), List.mem_of_getElem? (i := 577) (by decide +kernel)⟩
theorem lw_p3 : lw_okq (⟨"BellRibbons$LawReader", "fail", "(I)Z"⟩, 5) := ⟨⟨by decide +kernel, by decide +kernel⟩, List.mem_of_getElem? (i := 198) (by decide +kernel), List.mem_of_getElem? (i := 584) (by decide +kernel), List.mem_of_getElem? (i := 585) (by decide +kernel)⟩
theorem lw_p4 : lw_okq (⟨"BellRibbons$LawReader", "readSum", "(I)Z"⟩, 5) := ⟨⟨by decide +kernel, by decide +kernel⟩, List.mem_of_getElem? (i := 198) (by decide +kernel), List.mem_of_getElem? (i := 592) (by decide +kernel), List.mem_of_getElem? (i := 593) (by decide +kernel)⟩
theorem lw_p5 : lw_okq (⟨"BellRibbons$LawReader", "readTerm", "(I)Z"⟩, 5) := ⟨⟨by decide +kernel, by decide +kernel⟩, List.mem_of_getElem? (i := 198) (by decide +kernel), List.mem_of_getElem? (i := 596) (by decide +kernel), List.mem_of_getElem? (i := 597) (by decide +kernel)⟩
theorem lw_p6 : lw_okq (⟨"BellRibbons$LawReader", "readFactor", "(I)Z"⟩, 5) := ⟨⟨by decide +kernel, by decide +kernel⟩, List.mem_of_getElem? (i := 198) (by decide +kernel), List.mem_of_getElem? (i := 600) (by decide +kernel), List.mem_of_getElem? (i := 601) (by decide +kernel)⟩
theorem lw_p7 : lw_okq (⟨"BellRibbons$LawReader", "open", "(II)Z"⟩, 5) := ⟨⟨by decide +kernel, by decide +kernel⟩, List.mem_of_getElem? (i := 198) (by decide +kernel), List.mem_of_getElem? (i := 604) (by decide +kernel), List.mem_of_getElem? (i := 605) (by decide +kernel)⟩
theorem lw_p8 : lw_okq (⟨"BellRibbons$LawReader", "take", "(I)Z"⟩, 5) := ⟨⟨by decide +kernel, by decide +kernel⟩, List.mem_of_getElem? (i := 198) (by decide +kernel), List.mem_of_getElem? (i := 608) (by decide +kernel), List.mem_of_getElem? (i := 609) (by decide +kernel)⟩
theorem lw_p9 : lw_okq (⟨"BellRibbons$LawReader", "readNumber", "()Z"⟩, 5) := ⟨⟨by decide +kernel, by decide +kernel⟩, List.mem_of_getElem? (i := 198) (by decide +kernel), List.mem_of_getElem? (i := 615) (by decide +kernel), List.mem_of_getElem? (i := 616) (by decide +kernel)⟩
theorem lw_p10 : lw_okq (⟨"BellRibbons$LawReader", "readCondition", "(I)Z"⟩, 5) := ⟨⟨by decide +kernel, by decide +kernel⟩, List.mem_of_getElem? (i := 198) (by decide +kernel), List.mem_of_getElem? (i := 631) (by decide +kernel), List.mem_of_getElem? (i := 632) (by decide +kernel)⟩
theorem lw_p11 : lw_okq (⟨"BellRibbons$LawReader", "readPart", "(I)Z"⟩, 5) := ⟨⟨by decide +kernel, by decide +kernel⟩, List.mem_of_getElem? (i := 198) (by decide +kernel), List.mem_of_getElem? (i := 635) (by decide +kernel), List.mem_of_getElem? (i := 636) (by decide +kernel)⟩
theorem lw_p12 : lw_okq (⟨"BellRibbons$LawReader", "readPiece", "(I)Z"⟩, 5) := ⟨⟨by decide +kernel, by decide +kernel⟩, List.mem_of_getElem? (i := 198) (by decide +kernel), List.mem_of_getElem? (i := 639) (by decide +kernel), List.mem_of_getElem? (i := 640) (by decide +kernel)⟩
theorem lw_p13 : lw_okq (⟨"BellRibbons$Law", "reckon", "(I)V"⟩, 12) := ⟨⟨by decide +kernel, by decide +kernel⟩, List.mem_of_getElem? (i := 153) (by decide +kernel), List.mem_of_getElem? (i := 689) (by decide +kernel), List.mem_of_getElem? (i := 690) (by decide +kernel)⟩
theorem lw_p14 : lw_okq (⟨"BellRibbons$Law", "put", "(I)V"⟩, 12) := ⟨⟨by decide +kernel, by decide +kernel⟩, List.mem_of_getElem? (i := 153) (by decide +kernel), List.mem_of_getElem? (i := 696) (by decide +kernel), List.mem_of_getElem? (i := 697) (by decide +kernel)⟩
theorem lw_p15 : lw_okq (⟨"BellRibbons$Law", "compare", "(I)V"⟩, 12) := ⟨⟨by decide +kernel, by decide +kernel⟩, List.mem_of_getElem? (i := 153) (by decide +kernel), List.mem_of_getElem? (i := 701) (by decide +kernel), List.mem_of_getElem? (i := 702) (by decide +kernel)⟩
def lw_privs_1 : List (MethodName × Nat) := [(⟨"BellRibbons", "mayHang", "(IIII)Z"⟩, 12), (⟨"BellRibbons$LawReader", "readClause", "()Z"⟩, 5), (⟨"BellRibbons$LawReader", "next", "()I"⟩, 5), (⟨"BellRibbons$LawReader", "fail", "(I)Z"⟩, 5), (⟨"BellRibbons$LawReader", "readSum", "(I)Z"⟩, 5), (⟨"BellRibbons$LawReader", "readTerm", "(I)Z"⟩, 5), (⟨"BellRibbons$LawReader", "readFactor", "(I)Z"⟩, 5), (⟨"BellRibbons$LawReader", "open", "(II)Z"⟩, 5), (⟨"BellRibbons$LawReader", "take", "(I)Z"⟩, 5), (⟨"BellRibbons$LawReader", "readNumber", "()Z"⟩, 5), (⟨"BellRibbons$LawReader", "readCondition", "(I)Z"⟩, 5), (⟨"BellRibbons$LawReader", "readPart", "(I)Z"⟩, 5), (⟨"BellRibbons$LawReader", "readPiece", "(I)Z"⟩, 5), (⟨"BellRibbons$Law", "reckon", "(I)V"⟩, 12), (⟨"BellRibbons$Law", "put", "(I)V"⟩, 12), (⟨"BellRibbons$Law", "compare", "(I)V"⟩, 12)]
theorem lw_r1 : ∀ q ∈ lw_privs_1, lw_okq q := List.forall_mem_cons.mpr ⟨lw_p0, List.forall_mem_cons.mpr ⟨lw_p1, List.forall_mem_cons.mpr ⟨lw_p2, List.forall_mem_cons.mpr ⟨lw_p3, List.forall_mem_cons.mpr ⟨lw_p4, List.forall_mem_cons.mpr ⟨lw_p5, List.forall_mem_cons.mpr ⟨lw_p6, List.forall_mem_cons.mpr ⟨lw_p7, List.forall_mem_cons.mpr ⟨lw_p8, List.forall_mem_cons.mpr ⟨lw_p9, List.forall_mem_cons.mpr ⟨lw_p10, List.forall_mem_cons.mpr ⟨lw_p11, List.forall_mem_cons.mpr ⟨lw_p12, List.forall_mem_cons.mpr ⟨lw_p13, List.forall_mem_cons.mpr ⟨lw_p14, List.forall_mem_cons.mpr ⟨lw_p15, fun _ h => absurd h List.not_mem_nil⟩⟩⟩⟩⟩⟩⟩⟩⟩⟩⟩⟩⟩⟩⟩⟩
theorem lw_p16 : lw_okq (⟨"BellRibbons$Law", "combine", "(I)V"⟩, 12) := ⟨⟨by decide +kernel, by decide +kernel⟩, List.mem_of_getElem? (i := 153) (by decide +kernel), List.mem_of_getElem? (i := 705) (by decide +kernel), List.mem_of_getElem? (i := 706) (by decide +kernel)⟩
theorem lw_p17 : lw_okq (⟨"BellRibbons$Payments", "startDay", "(II)V"⟩, 12) := ⟨⟨by decide +kernel, by decide +kernel⟩, List.mem_of_getElem? (i := 257) (by decide +kernel), List.mem_of_getElem? (i := 757) (by decide +kernel), List.mem_of_getElem? (i := 758) (by decide +kernel)⟩
theorem lw_p18 : lw_okq (⟨"BellRibbons$Payments", "weighChanges", "(II)V"⟩, 12) := ⟨⟨by decide +kernel, by decide +kernel⟩, List.mem_of_getElem? (i := 257) (by decide +kernel), List.mem_of_getElem? (i := 767) (by decide +kernel), List.mem_of_getElem? (i := 768) (by decide +kernel)⟩
theorem lw_p19 : lw_okq (⟨"BellRibbons$Payments", "canCut", "(II)Z"⟩, 12) := ⟨⟨by decide +kernel, by decide +kernel⟩, List.mem_of_getElem? (i := 257) (by decide +kernel), List.mem_of_getElem? (i := 771) (by decide +kernel), List.mem_of_getElem? (i := 772) (by decide +kernel)⟩
theorem lw_p20 : lw_okq (⟨"BellRibbons$Payments", "canKnot", "(II)Z"⟩, 12) := ⟨⟨by decide +kernel, by decide +kernel⟩, List.mem_of_getElem? (i := 257) (by decide +kernel), List.mem_of_getElem? (i := 779) (by decide +kernel), List.mem_of_getElem? (i := 780) (by decide +kernel)⟩
theorem lw_p21 : lw_okq (⟨"BellRibbons$Payments", "shift", "(III)V"⟩, 12) := ⟨⟨by decide +kernel, by decide +kernel⟩, List.mem_of_getElem? (i := 257) (by decide +kernel), List.mem_of_getElem? (i := 785) (by decide +kernel), List.mem_of_getElem? (i := 786) (by decide +kernel)⟩
theorem lw_p22 : lw_okq (⟨"BellRibbons$Payments", "tryKnots", "(II)V"⟩, 12) := ⟨⟨by decide +kernel, by decide +kernel⟩, List.mem_of_getElem? (i := 257) (by decide +kernel), List.mem_of_getElem? (i := 794) (by decide +kernel), List.mem_of_getElem? (i := 795) (by decide +kernel)⟩
theorem lw_p23 : lw_okq (⟨"BellRibbons$Leveller", "isTwice", "(I)Z"⟩, 12) := ⟨⟨by decide +kernel, by decide +kernel⟩, List.mem_of_getElem? (i := 308) (by decide +kernel), List.mem_of_getElem? (i := 820) (by decide +kernel), List.mem_of_getElem? (i := 821) (by decide +kernel)⟩
theorem lw_p24 : lw_okq (⟨"BellRibbons$Leveller", "weighAtPlaces", "(I)V"⟩, 12) := ⟨⟨by decide +kernel, by decide +kernel⟩, List.mem_of_getElem? (i := 308) (by decide +kernel), List.mem_of_getElem? (i := 831) (by decide +kernel), List.mem_of_getElem? (i := 832) (by decide +kernel)⟩
theorem lw_p25 : lw_okq (⟨"BellRibbons$Leveller", "hangFrom", "(II)V"⟩, 12) := ⟨⟨by decide +kernel, by decide +kernel⟩, List.mem_of_getElem? (i := 308) (by decide +kernel), List.mem_of_getElem? (i := 838) (by decide +kernel), List.mem_of_getElem? (i := 839) (by decide +kernel)⟩
theorem lw_p26 : lw_okq (⟨"BellRibbons$Leveller", "compare", "()V"⟩, 12) := ⟨⟨by decide +kernel, by decide +kernel⟩, List.mem_of_getElem? (i := 308) (by decide +kernel), List.mem_of_getElem? (i := 842) (by decide +kernel), List.mem_of_getElem? (i := 843) (by decide +kernel)⟩
theorem lw_p27 : lw_okq (⟨"BellRibbons$Watcher", "startWatch", "()V"⟩, 10) := ⟨⟨by decide +kernel, by decide +kernel⟩, List.mem_of_getElem? (i := 354) (by decide +kernel), List.mem_of_getElem? (i := 876) (by decide +kernel), List.mem_of_getElem? (i := 877) (by decide +kernel)⟩
theorem lw_p28 : lw_okq (⟨"BellRibbons$Watcher", "isInQuestion", "(I)Z"⟩, 10) := ⟨⟨by decide +kernel, by decide +kernel⟩, List.mem_of_getElem? (i := 354) (by decide +kernel), List.mem_of_getElem? (i := 886) (by decide +kernel), List.mem_of_getElem? (i := 887) (by decide +kernel)⟩
theorem lw_p29 : lw_okq (⟨"BellRibbons$Watcher", "mayBe", "(II)Z"⟩, 10) := ⟨⟨by decide +kernel, by decide +kernel⟩, List.mem_of_getElem? (i := 354) (by decide +kernel), List.mem_of_getElem? (i := 891) (by decide +kernel), List.mem_of_getElem? (i := 892) (by decide +kernel)⟩
theorem lw_p30 : lw_okq (⟨"BellRibbons$Watcher", "crowdBy", "(I)I"⟩, 10) := ⟨⟨by decide +kernel, by decide +kernel⟩, List.mem_of_getElem? (i := 354) (by decide +kernel), List.mem_of_getElem? (i := 931) (by decide +kernel), List.mem_of_getElem? (i := 932) (by decide +kernel)⟩
theorem lw_p31 : lw_okq (⟨"BellRibbons$Watcher", "pictureOf", "(III)J"⟩, 10) := ⟨⟨by decide +kernel, by decide +kernel⟩, List.mem_of_getElem? (i := 354) (by decide +kernel), List.mem_of_getElem? (i := 935) (by decide +kernel), List.mem_of_getElem? (i := 936) (by decide +kernel)⟩
def lw_privs_2 : List (MethodName × Nat) := [(⟨"BellRibbons$Law", "combine", "(I)V"⟩, 12), (⟨"BellRibbons$Payments", "startDay", "(II)V"⟩, 12), (⟨"BellRibbons$Payments", "weighChanges", "(II)V"⟩, 12), (⟨"BellRibbons$Payments", "canCut", "(II)Z"⟩, 12), (⟨"BellRibbons$Payments", "canKnot", "(II)Z"⟩, 12), (⟨"BellRibbons$Payments", "shift", "(III)V"⟩, 12), (⟨"BellRibbons$Payments", "tryKnots", "(II)V"⟩, 12), (⟨"BellRibbons$Leveller", "isTwice", "(I)Z"⟩, 12), (⟨"BellRibbons$Leveller", "weighAtPlaces", "(I)V"⟩, 12), (⟨"BellRibbons$Leveller", "hangFrom", "(II)V"⟩, 12), (⟨"BellRibbons$Leveller", "compare", "()V"⟩, 12), (⟨"BellRibbons$Watcher", "startWatch", "()V"⟩, 10), (⟨"BellRibbons$Watcher", "isInQuestion", "(I)Z"⟩, 10), (⟨"BellRibbons$Watcher", "mayBe", "(II)Z"⟩, 10), (⟨"BellRibbons$Watcher", "crowdBy", "(I)I"⟩, 10), (⟨"BellRibbons$Watcher", "pictureOf", "(III)J"⟩, 10)]
theorem lw_r2 : ∀ q ∈ lw_privs_2, lw_okq q := List.forall_mem_cons.mpr ⟨lw_p16, List.forall_mem_cons.mpr ⟨lw_p17, List.forall_mem_cons.mpr ⟨lw_p18, List.forall_mem_cons.mpr ⟨lw_p19, List.forall_mem_cons.mpr ⟨lw_p20, List.forall_mem_cons.mpr ⟨lw_p21, List.forall_mem_cons.mpr ⟨lw_p22, List.forall_mem_cons.mpr ⟨lw_p23, List.forall_mem_cons.mpr ⟨lw_p24, List.forall_mem_cons.mpr ⟨lw_p25, List.forall_mem_cons.mpr ⟨lw_p26, List.forall_mem_cons.mpr ⟨lw_p27, List.forall_mem_cons.mpr ⟨lw_p28, List.forall_mem_cons.mpr ⟨lw_p29, List.forall_mem_cons.mpr ⟨lw_p30, List.forall_mem_cons.mpr ⟨lw_p31, fun _ h => absurd h List.not_mem_nil⟩⟩⟩⟩⟩⟩⟩⟩⟩⟩⟩⟩⟩⟩⟩⟩
theorem lw_p32 : lw_okq (⟨"BellRibbons$Payments", "mostPayable", "()I"⟩, 12) := ⟨⟨by decide +kernel, by decide +kernel⟩, List.mem_of_getElem? (i := 257) (by decide +kernel), List.mem_of_getElem? (i := 964) (by decide +kernel), List.mem_of_getElem? (i := 965) (by decide +kernel)⟩
theorem lw_p33 : lw_okq (⟨"BellRibbons$Payments", "findUnseen", "(II)Z"⟩, 12) := ⟨⟨by decide +kernel, by decide +kernel⟩, List.mem_of_getElem? (i := 257) (by decide +kernel), List.mem_of_getElem? (i := 970) (by decide +kernel), List.mem_of_getElem? (i := 971) (by decide +kernel)⟩
theorem lw_p34 : lw_okq (⟨"BellRibbons$Payments", "isUnseen", "(III)Z"⟩, 12) := ⟨⟨by decide +kernel, by decide +kernel⟩, List.mem_of_getElem? (i := 257) (by decide +kernel), List.mem_of_getElem? (i := 974) (by decide +kernel), List.mem_of_getElem? (i := 975) (by decide +kernel)⟩
theorem lw_p35 : lw_okq (⟨"BellRibbons$Debts", "addUp", "()V"⟩, 6) := ⟨⟨by decide +kernel, by decide +kernel⟩, List.mem_of_getElem? (i := 393) (by decide +kernel), List.mem_of_getElem? (i := 1002) (by decide +kernel), List.mem_of_getElem? (i := 1003) (by decide +kernel)⟩
theorem lw_p36 : lw_okq (⟨"BellRibbons$Debts", "goOn", "(III)V"⟩, 6) := ⟨⟨by decide +kernel, by decide +kernel⟩, List.mem_of_getElem? (i := 393) (by decide +kernel), List.mem_of_getElem? (i := 1008) (by decide +kernel), List.mem_of_getElem? (i := 1009) (by decide +kernel)⟩
theorem lw_p37 : lw_okq (⟨"BellRibbons$Debts", "compare", "(II)V"⟩, 6) := ⟨⟨by decide +kernel, by decide +kernel⟩, List.mem_of_getElem? (i := 393) (by decide +kernel), List.mem_of_getElem? (i := 1013) (by decide +kernel), List.mem_of_getElem? (i := 1014) (by decide +kernel)⟩
theorem lw_p38 : lw_okq (⟨"BellRibbons$Debts", "cutRing", "()V"⟩, 6) := ⟨⟨by decide +kernel, by decide +kernel⟩, List.mem_of_getElem? (i := 393) (by decide +kernel), List.mem_of_getElem? (i := 1027) (by decide +kernel), List.mem_of_getElem? (i := 1028) (by decide +kernel)⟩
theorem lw_p39 : lw_okq (⟨"BellRibbons$Rush", "weighPeople", "()V"⟩, 8) := ⟨⟨by decide +kernel, by decide +kernel⟩, List.mem_of_getElem? (i := 422) (by decide +kernel), List.mem_of_getElem? (i := 1050) (by decide +kernel), List.mem_of_getElem? (i := 1051) (by decide +kernel)⟩
theorem lw_p40 : lw_okq (⟨"BellRibbons$Rush", "isTipped", "(II)Z"⟩, 8) := ⟨⟨by decide +kernel, by decide +kernel⟩, List.mem_of_getElem? (i := 422) (by decide +kernel), List.mem_of_getElem? (i := 1060) (by decide +kernel), List.mem_of_getElem? (i := 1061) (by decide +kernel)⟩
theorem lw_p41 : lw_okq (⟨"BellRibbons$Rush", "bestFrom", "(II)I"⟩, 8) := ⟨⟨by decide +kernel, by decide +kernel⟩, List.mem_of_getElem? (i := 422) (by decide +kernel), List.mem_of_getElem? (i := 1080) (by decide +kernel), List.mem_of_getElem? (i := 1081) (by decide +kernel)⟩
theorem lw_p42 : lw_okq (⟨"BellRibbons$Rush", "hopeBy", "(II)I"⟩, 8) := ⟨⟨by decide +kernel, by decide +kernel⟩, List.mem_of_getElem? (i := 422) (by decide +kernel), List.mem_of_getElem? (i := 1084) (by decide +kernel), List.mem_of_getElem? (i := 1085) (by decide +kernel)⟩
theorem lw_p43 : lw_okq (⟨"BellRibbons$Rush", "hopeOf", "(I)I"⟩, 8) := ⟨⟨by decide +kernel, by decide +kernel⟩, List.mem_of_getElem? (i := 422) (by decide +kernel), List.mem_of_getElem? (i := 1088) (by decide +kernel), List.mem_of_getElem? (i := 1089) (by decide +kernel)⟩
theorem lw_p44 : lw_okq (⟨"BellRibbons$Rush", "nextPerson", "(IIZ)I"⟩, 8) := ⟨⟨by decide +kernel, by decide +kernel⟩, List.mem_of_getElem? (i := 422) (by decide +kernel), List.mem_of_getElem? (i := 1101) (by decide +kernel), List.mem_of_getElem? (i := 1102) (by decide +kernel)⟩
theorem lw_p45 : lw_okq (⟨"BellRibbonsModel", "isRod", "(I)Z"⟩, 85) := ⟨⟨by decide +kernel, by decide +kernel⟩, List.mem_of_getElem? (i := 1147) (by decide +kernel), List.mem_of_getElem? (i := 1414) (by decide +kernel), List.mem_of_getElem? (i := 1415) (by decide +kernel)⟩
theorem lw_p46 : lw_okq (⟨"BellRibbonsModel", "adds", "(IIIIII)I"⟩, 85) := ⟨⟨by decide +kernel, by decide +kernel⟩, List.mem_of_getElem? (i := 1147) (by decide +kernel), List.mem_of_getElem? (i := 1443) (by decide +kernel), List.mem_of_getElem? (i := 1444) (by decide +kernel)⟩
theorem lw_p47 : lw_okq (⟨"BellRibbonsModel", "push", "(I)V"⟩, 85) := ⟨⟨by decide +kernel, by decide +kernel⟩, List.mem_of_getElem? (i := 1147) (by decide +kernel), List.mem_of_getElem? (i := 1464) (by decide +kernel), List.mem_of_getElem? (i := 1465) (by decide +kernel)⟩
def lw_privs_3 : List (MethodName × Nat) := [(⟨"BellRibbons$Payments", "mostPayable", "()I"⟩, 12), (⟨"BellRibbons$Payments", "findUnseen", "(II)Z"⟩, 12), (⟨"BellRibbons$Payments", "isUnseen", "(III)Z"⟩, 12), (⟨"BellRibbons$Debts", "addUp", "()V"⟩, 6), (⟨"BellRibbons$Debts", "goOn", "(III)V"⟩, 6), (⟨"BellRibbons$Debts", "compare", "(II)V"⟩, 6), (⟨"BellRibbons$Debts", "cutRing", "()V"⟩, 6), (⟨"BellRibbons$Rush", "weighPeople", "()V"⟩, 8), (⟨"BellRibbons$Rush", "isTipped", "(II)Z"⟩, 8), (⟨"BellRibbons$Rush", "bestFrom", "(II)I"⟩, 8), (⟨"BellRibbons$Rush", "hopeBy", "(II)I"⟩, 8), (⟨"BellRibbons$Rush", "hopeOf", "(I)I"⟩, 8), (⟨"BellRibbons$Rush", "nextPerson", "(IIZ)I"⟩, 8), (⟨"BellRibbonsModel", "isRod", "(I)Z"⟩, 85), (⟨"BellRibbonsModel", "adds", "(IIIIII)I"⟩, 85), (⟨"BellRibbonsModel", "push", "(I)V"⟩, 85)]
theorem lw_r3 : ∀ q ∈ lw_privs_3, lw_okq q := List.forall_mem_cons.mpr ⟨lw_p32, List.forall_mem_cons.mpr ⟨lw_p33, List.forall_mem_cons.mpr ⟨lw_p34, List.forall_mem_cons.mpr ⟨lw_p35, List.forall_mem_cons.mpr ⟨lw_p36, List.forall_mem_cons.mpr ⟨lw_p37, List.forall_mem_cons.mpr ⟨lw_p38, List.forall_mem_cons.mpr ⟨lw_p39, List.forall_mem_cons.mpr ⟨lw_p40, List.forall_mem_cons.mpr ⟨lw_p41, List.forall_mem_cons.mpr ⟨lw_p42, List.forall_mem_cons.mpr ⟨lw_p43, List.forall_mem_cons.mpr ⟨lw_p44, List.forall_mem_cons.mpr ⟨lw_p45, List.forall_mem_cons.mpr ⟨lw_p46, List.forall_mem_cons.mpr ⟨lw_p47, fun _ h => absurd h List.not_mem_nil⟩⟩⟩⟩⟩⟩⟩⟩⟩⟩⟩⟩⟩⟩⟩⟩
theorem lw_p48 : lw_okq (⟨"BellRibbonsModel", "isGood", "()Z"⟩, 85) := ⟨⟨by decide +kernel, by decide +kernel⟩, List.mem_of_getElem? (i := 1147) (by decide +kernel), List.mem_of_getElem? (i := 1473) (by decide +kernel), List.mem_of_getElem? (i := 1474) (by decide +kernel)⟩
theorem lw_p49 : lw_okq (⟨"BellRibbonsModel", "clause", "()V"⟩, 85) := ⟨⟨by decide +kernel, by decide +kernel⟩, List.mem_of_getElem? (i := 1147) (by decide +kernel), List.mem_of_getElem? (i := 1477) (by decide +kernel), List.mem_of_getElem? (i := 1478) (by decide +kernel)⟩
theorem lw_p50 : lw_okq (⟨"BellRibbonsModel", "here", "()I"⟩, 85) := ⟨⟨by decide +kernel, by decide +kernel⟩, List.mem_of_getElem? (i := 1147) (by decide +kernel), List.mem_of_getElem? (i := 1481) (by decide +kernel), List.mem_of_getElem? (i := 1482) (by decide +kernel)⟩
theorem lw_p51 : lw_okq (⟨"BellRibbonsModel", "wrongs", "(II)V"⟩, 85) := ⟨⟨by decide +kernel, by decide +kernel⟩, List.mem_of_getElem? (i := 1147) (by decide +kernel), List.mem_of_getElem? (i := 1485) (by decide +kernel), List.mem_of_getElem? (i := 1486) (by decide +kernel)⟩
theorem lw_p52 : lw_okq (⟨"BellRibbonsModel", "value", "()V"⟩, 85) := ⟨⟨by decide +kernel, by decide +kernel⟩, List.mem_of_getElem? (i := 1147) (by decide +kernel), List.mem_of_getElem? (i := 1489) (by decide +kernel), List.mem_of_getElem? (i := 1490) (by decide +kernel)⟩
theorem lw_p53 : lw_okq (⟨"BellRibbonsModel", "factor", "()V"⟩, 85) := ⟨⟨by decide +kernel, by decide +kernel⟩, List.mem_of_getElem? (i := 1147) (by decide +kernel), List.mem_of_getElem? (i := 1493) (by decide +kernel), List.mem_of_getElem? (i := 1494) (by decide +kernel)⟩
theorem lw_p54 : lw_okq (⟨"BellRibbonsModel", "opens", "()V"⟩, 85) := ⟨⟨by decide +kernel, by decide +kernel⟩, List.mem_of_getElem? (i := 1147) (by decide +kernel), List.mem_of_getElem? (i := 1497) (by decide +kernel), List.mem_of_getElem? (i := 1498) (by decide +kernel)⟩
theorem lw_p55 : lw_okq (⟨"BellRibbonsModel", "puts", "(I)V"⟩, 85) := ⟨⟨by decide +kernel, by decide +kernel⟩, List.mem_of_getElem? (i := 1147) (by decide +kernel), List.mem_of_getElem? (i := 1501) (by decide +kernel), List.mem_of_getElem? (i := 1502) (by decide +kernel)⟩
theorem lw_p56 : lw_okq (⟨"BellRibbonsModel", "seesDigit", "()Z"⟩, 85) := ⟨⟨by decide +kernel, by decide +kernel⟩, List.mem_of_getElem? (i := 1147) (by decide +kernel), List.mem_of_getElem? (i := 1505) (by decide +kernel), List.mem_of_getElem? (i := 1506) (by decide +kernel)⟩
theorem lw_p57 : lw_okq (⟨"BellRibbonsModel", "reads", "()I"⟩, 85) := ⟨⟨by decide +kernel, by decide +kernel⟩, List.mem_of_getElem? (i := 1147) (by decide +kernel), List.mem_of_getElem? (i := 1511) (by decide +kernel), List.mem_of_getElem? (i := 1512) (by decide +kernel)⟩
theorem lw_p58 : lw_okq (⟨"BellRibbonsModel", "emit", "(II)V"⟩, 85) := ⟨⟨by decide +kernel, by decide +kernel⟩, List.mem_of_getElem? (i := 1147) (by decide +kernel), List.mem_of_getElem? (i := 1515) (by decide +kernel), List.mem_of_getElem? (i := 1516) (by decide +kernel)⟩
theorem lw_p59 : lw_okq (⟨"BellRibbonsModel", "stays", "()Z"⟩, 85) := ⟨⟨by decide +kernel, by decide +kernel⟩, List.mem_of_getElem? (i := 1147) (by decide +kernel), List.mem_of_getElem? (i := 1522) (by decide +kernel), List.mem_of_getElem? (i := 1523) (by decide +kernel)⟩
theorem lw_p60 : lw_okq (⟨"BellRibbonsModel", "sums", "(Z)V"⟩, 85) := ⟨⟨by decide +kernel, by decide +kernel⟩, List.mem_of_getElem? (i := 1147) (by decide +kernel), List.mem_of_getElem? (i := 1532) (by decide +kernel), List.mem_of_getElem? (i := 1533) (by decide +kernel)⟩
theorem lw_p61 : lw_okq (⟨"BellRibbonsModel", "top", "()I"⟩, 85) := ⟨⟨by decide +kernel, by decide +kernel⟩, List.mem_of_getElem? (i := 1147) (by decide +kernel), List.mem_of_getElem? (i := 1536) (by decide +kernel), List.mem_of_getElem? (i := 1537) (by decide +kernel)⟩
theorem lw_p62 : lw_okq (⟨"BellRibbonsModel", "condition", "()V"⟩, 85) := ⟨⟨by decide +kernel, by decide +kernel⟩, List.mem_of_getElem? (i := 1147) (by decide +kernel), List.mem_of_getElem? (i := 1540) (by decide +kernel), List.mem_of_getElem? (i := 1541) (by decide +kernel)⟩
theorem lw_p63 : lw_okq (⟨"BellRibbonsModel", "pieceOfC", "()V"⟩, 85) := ⟨⟨by decide +kernel, by decide +kernel⟩, List.mem_of_getElem? (i := 1147) (by decide +kernel), List.mem_of_getElem? (i := 1544) (by decide +kernel), List.mem_of_getElem? (i := 1545) (by decide +kernel)⟩
def lw_privs_4 : List (MethodName × Nat) := [(⟨"BellRibbonsModel", "isGood", "()Z"⟩, 85), (⟨"BellRibbonsModel", "clause", "()V"⟩, 85), (⟨"BellRibbonsModel", "here", "()I"⟩, 85), (⟨"BellRibbonsModel", "wrongs", "(II)V"⟩, 85), (⟨"BellRibbonsModel", "value", "()V"⟩, 85), (⟨"BellRibbonsModel", "factor", "()V"⟩, 85), (⟨"BellRibbonsModel", "opens", "()V"⟩, 85), (⟨"BellRibbonsModel", "puts", "(I)V"⟩, 85), (⟨"BellRibbonsModel", "seesDigit", "()Z"⟩, 85), (⟨"BellRibbonsModel", "reads", "()I"⟩, 85), (⟨"BellRibbonsModel", "emit", "(II)V"⟩, 85), (⟨"BellRibbonsModel", "stays", "()Z"⟩, 85), (⟨"BellRibbonsModel", "sums", "(Z)V"⟩, 85), (⟨"BellRibbonsModel", "top", "()I"⟩, 85), (⟨"BellRibbonsModel", "condition", "()V"⟩, 85), (⟨"BellRibbonsModel", "pieceOfC", "()V"⟩, 85)]
theorem lw_r4 : ∀ q ∈ lw_privs_4, lw_okq q := List.forall_mem_cons.mpr ⟨lw_p48, List.forall_mem_cons.mpr ⟨lw_p49, List.forall_mem_cons.mpr ⟨lw_p50, List.forall_mem_cons.mpr ⟨lw_p51, List.forall_mem_cons.mpr ⟨lw_p52, List.forall_mem_cons.mpr ⟨lw_p53, List.forall_mem_cons.mpr ⟨lw_p54, List.forall_mem_cons.mpr ⟨lw_p55, List.forall_mem_cons.mpr ⟨lw_p56, List.forall_mem_cons.mpr ⟨lw_p57, List.forall_mem_cons.mpr ⟨lw_p58, List.forall_mem_cons.mpr ⟨lw_p59, List.forall_mem_cons.mpr ⟨lw_p60, List.forall_mem_cons.mpr ⟨lw_p61, List.forall_mem_cons.mpr ⟨lw_p62, List.forall_mem_cons.mpr ⟨lw_p63, fun _ h => absurd h List.not_mem_nil⟩⟩⟩⟩⟩⟩⟩⟩⟩⟩⟩⟩⟩⟩⟩⟩
theorem lw_p64 : lw_okq (⟨"BellRibbonsModel", "ends", "()V"⟩, 85) := ⟨⟨by decide +kernel, by decide +kernel⟩, List.mem_of_getElem? (i := 1147) (by decide +kernel), List.mem_of_getElem? (i := 1551) (by decide +kernel), List.mem_of_getElem? (i := 1552) (by decide +kernel)⟩
theorem lw_p65 : lw_okq (⟨"BellRibbonsModel", "goesBehind", "()Z"⟩, 85) := ⟨⟨by decide +kernel, by decide +kernel⟩, List.mem_of_getElem? (i := 1147) (by decide +kernel), List.mem_of_getElem? (i := 1555) (by decide +kernel), List.mem_of_getElem? (i := 1556) (by decide +kernel)⟩
theorem lw_p66 : lw_okq (⟨"BellRibbonsModel", "joins", "(Z)V"⟩, 85) := ⟨⟨by decide +kernel, by decide +kernel⟩, List.mem_of_getElem? (i := 1147) (by decide +kernel), List.mem_of_getElem? (i := 1559) (by decide +kernel), List.mem_of_getElem? (i := 1560) (by decide +kernel)⟩
theorem lw_p67 : lw_okq (⟨"BellRibbonsModel", "laysLeans", "()V"⟩, 85) := ⟨⟨by decide +kernel, by decide +kernel⟩, List.mem_of_getElem? (i := 1147) (by decide +kernel), List.mem_of_getElem? (i := 1568) (by decide +kernel), List.mem_of_getElem? (i := 1569) (by decide +kernel)⟩
theorem lw_p68 : lw_okq (⟨"BellRibbonsModel", "heavy", "(I)I"⟩, 85) := ⟨⟨by decide +kernel, by decide +kernel⟩, List.mem_of_getElem? (i := 1147) (by decide +kernel), List.mem_of_getElem? (i := 1572) (by decide +kernel), List.mem_of_getElem? (i := 1573) (by decide +kernel)⟩
theorem lw_p69 : lw_okq (⟨"BellRibbonsModel", "tells", "(IIIII)I"⟩, 85) := ⟨⟨by decide +kernel, by decide +kernel⟩, List.mem_of_getElem? (i := 1147) (by decide +kernel), List.mem_of_getElem? (i := 1576) (by decide +kernel), List.mem_of_getElem? (i := 1577) (by decide +kernel)⟩
theorem lw_p70 : lw_okq (⟨"BellRibbonsModel", "works", "(II)V"⟩, 85) := ⟨⟨by decide +kernel, by decide +kernel⟩, List.mem_of_getElem? (i := 1147) (by decide +kernel), List.mem_of_getElem? (i := 1580) (by decide +kernel), List.mem_of_getElem? (i := 1581) (by decide +kernel)⟩
theorem lw_p71 : lw_okq (⟨"BellRibbonsModel", "does", "(II)V"⟩, 85) := ⟨⟨by decide +kernel, by decide +kernel⟩, List.mem_of_getElem? (i := 1147) (by decide +kernel), List.mem_of_getElem? (i := 1584) (by decide +kernel), List.mem_of_getElem? (i := 1585) (by decide +kernel)⟩
theorem lw_p72 : lw_okq (⟨"BellRibbonsModel", "valueOf", "(I)I"⟩, 85) := ⟨⟨by decide +kernel, by decide +kernel⟩, List.mem_of_getElem? (i := 1147) (by decide +kernel), List.mem_of_getElem? (i := 1591) (by decide +kernel), List.mem_of_getElem? (i := 1592) (by decide +kernel)⟩
theorem lw_p73 : lw_okq (⟨"BellRibbonsModel", "pushed", "(I)I"⟩, 85) := ⟨⟨by decide +kernel, by decide +kernel⟩, List.mem_of_getElem? (i := 1147) (by decide +kernel), List.mem_of_getElem? (i := 1595) (by decide +kernel), List.mem_of_getElem? (i := 1596) (by decide +kernel)⟩
theorem lw_p74 : lw_okq (⟨"BellRibbonsModel", "isRibbon", "(I)Z"⟩, 85) := ⟨⟨by decide +kernel, by decide +kernel⟩, List.mem_of_getElem? (i := 1147) (by decide +kernel), List.mem_of_getElem? (i := 1603) (by decide +kernel), List.mem_of_getElem? (i := 1604) (by decide +kernel)⟩
theorem lw_p75 : lw_okq (⟨"BellRibbonsModel", "canKnot", "(IIIII)Z"⟩, 85) := ⟨⟨by decide +kernel, by decide +kernel⟩, List.mem_of_getElem? (i := 1147) (by decide +kernel), List.mem_of_getElem? (i := 1626) (by decide +kernel), List.mem_of_getElem? (i := 1627) (by decide +kernel)⟩
theorem lw_p76 : lw_okq (⟨"BellRibbonsModel", "isWhiteOf", "(II)Z"⟩, 85) := ⟨⟨by decide +kernel, by decide +kernel⟩, List.mem_of_getElem? (i := 1147) (by decide +kernel), List.mem_of_getElem? (i := 1630) (by decide +kernel), List.mem_of_getElem? (i := 1631) (by decide +kernel)⟩
theorem lw_p77 : lw_okq (⟨"BellRibbonsModel", "othersBy", "(III)I"⟩, 85) := ⟨⟨by decide +kernel, by decide +kernel⟩, List.mem_of_getElem? (i := 1147) (by decide +kernel), List.mem_of_getElem? (i := 1634) (by decide +kernel), List.mem_of_getElem? (i := 1635) (by decide +kernel)⟩
theorem lw_p78 : lw_okq (⟨"BellRibbonsModel", "knots", "(III)V"⟩, 85) := ⟨⟨by decide +kernel, by decide +kernel⟩, List.mem_of_getElem? (i := 1147) (by decide +kernel), List.mem_of_getElem? (i := 1638) (by decide +kernel), List.mem_of_getElem? (i := 1639) (by decide +kernel)⟩
theorem lw_p79 : lw_okq (⟨"BellRibbonsModel", "takesPlaces", "(I)Z"⟩, 85) := ⟨⟨by decide +kernel, by decide +kernel⟩, List.mem_of_getElem? (i := 1147) (by decide +kernel), List.mem_of_getElem? (i := 1647) (by decide +kernel), List.mem_of_getElem? (i := 1648) (by decide +kernel)⟩
def lw_privs_5 : List (MethodName × Nat) := [(⟨"BellRibbonsModel", "ends", "()V"⟩, 85), (⟨"BellRibbonsModel", "goesBehind", "()Z"⟩, 85), (⟨"BellRibbonsModel", "joins", "(Z)V"⟩, 85), (⟨"BellRibbonsModel", "laysLeans", "()V"⟩, 85), (⟨"BellRibbonsModel", "heavy", "(I)I"⟩, 85), (⟨"BellRibbonsModel", "tells", "(IIIII)I"⟩, 85), (⟨"BellRibbonsModel", "works", "(II)V"⟩, 85), (⟨"BellRibbonsModel", "does", "(II)V"⟩, 85), (⟨"BellRibbonsModel", "valueOf", "(I)I"⟩, 85), (⟨"BellRibbonsModel", "pushed", "(I)I"⟩, 85), (⟨"BellRibbonsModel", "isRibbon", "(I)Z"⟩, 85), (⟨"BellRibbonsModel", "canKnot", "(IIIII)Z"⟩, 85), (⟨"BellRibbonsModel", "isWhiteOf", "(II)Z"⟩, 85), (⟨"BellRibbonsModel", "othersBy", "(III)I"⟩, 85), (⟨"BellRibbonsModel", "knots", "(III)V"⟩, 85), (⟨"BellRibbonsModel", "takesPlaces", "(I)Z"⟩, 85)]
theorem lw_r5 : ∀ q ∈ lw_privs_5, lw_okq q := List.forall_mem_cons.mpr ⟨lw_p64, List.forall_mem_cons.mpr ⟨lw_p65, List.forall_mem_cons.mpr ⟨lw_p66, List.forall_mem_cons.mpr ⟨lw_p67, List.forall_mem_cons.mpr ⟨lw_p68, List.forall_mem_cons.mpr ⟨lw_p69, List.forall_mem_cons.mpr ⟨lw_p70, List.forall_mem_cons.mpr ⟨lw_p71, List.forall_mem_cons.mpr ⟨lw_p72, List.forall_mem_cons.mpr ⟨lw_p73, List.forall_mem_cons.mpr ⟨lw_p74, List.forall_mem_cons.mpr ⟨lw_p75, List.forall_mem_cons.mpr ⟨lw_p76, List.forall_mem_cons.mpr ⟨lw_p77, List.forall_mem_cons.mpr ⟨lw_p78, List.forall_mem_cons.mpr ⟨lw_p79, fun _ h => absurd h List.not_mem_nil⟩⟩⟩⟩⟩⟩⟩⟩⟩⟩⟩⟩⟩⟩⟩⟩
theorem lw_p80 : lw_okq (⟨"BellRibbonsModel", "byteAt", "(I)I"⟩, 85) := ⟨⟨by decide +kernel, by decide +kernel⟩, List.mem_of_getElem? (i := 1147) (by decide +kernel), List.mem_of_getElem? (i := 1651) (by decide +kernel), List.mem_of_getElem? (i := 1652) (by decide +kernel)⟩
theorem lw_p81 : lw_okq (⟨"BellRibbonsModel", "hangsBy", "(II)V"⟩, 85) := ⟨⟨by decide +kernel, by decide +kernel⟩, List.mem_of_getElem? (i := 1147) (by decide +kernel), List.mem_of_getElem? (i := 1656) (by decide +kernel), List.mem_of_getElem? (i := 1657) (by decide +kernel)⟩
theorem lw_p82 : lw_okq (⟨"BellRibbonsModel", "sumOfLeans", "()I"⟩, 85) := ⟨⟨by decide +kernel, by decide +kernel⟩, List.mem_of_getElem? (i := 1147) (by decide +kernel), List.mem_of_getElem? (i := 1660) (by decide +kernel), List.mem_of_getElem? (i := 1661) (by decide +kernel)⟩
theorem lw_p83 : lw_okq (⟨"BellRibbonsModel", "goesOn", "(I)Z"⟩, 85) := ⟨⟨by decide +kernel, by decide +kernel⟩, List.mem_of_getElem? (i := 1147) (by decide +kernel), List.mem_of_getElem? (i := 1667) (by decide +kernel), List.mem_of_getElem? (i := 1668) (by decide +kernel)⟩
theorem lw_p84 : lw_okq (⟨"BellRibbonsModel", "seenMany", "()I"⟩, 85) := ⟨⟨by decide +kernel, by decide +kernel⟩, List.mem_of_getElem? (i := 1147) (by decide +kernel), List.mem_of_getElem? (i := 1675) (by decide +kernel), List.mem_of_getElem? (i := 1676) (by decide +kernel)⟩
theorem lw_p85 : lw_okq (⟨"BellRibbonsModel", "toldPicture", "(I)J"⟩, 85) := ⟨⟨by decide +kernel, by decide +kernel⟩, List.mem_of_getElem? (i := 1147) (by decide +kernel), List.mem_of_getElem? (i := 1679) (by decide +kernel), List.mem_of_getElem? (i := 1680) (by decide +kernel)⟩
theorem lw_p86 : lw_okq (⟨"BellRibbonsModel", "lengthsOf", "(IJ)I"⟩, 85) := ⟨⟨by decide +kernel, by decide +kernel⟩, List.mem_of_getElem? (i := 1147) (by decide +kernel), List.mem_of_getElem? (i := 1684) (by decide +kernel), List.mem_of_getElem? (i := 1685) (by decide +kernel)⟩
theorem lw_p87 : lw_okq (⟨"BellRibbonsModel", "canBe", "(IIJ)Z"⟩, 85) := ⟨⟨by decide +kernel, by decide +kernel⟩, List.mem_of_getElem? (i := 1147) (by decide +kernel), List.mem_of_getElem? (i := 1688) (by decide +kernel), List.mem_of_getElem? (i := 1689) (by decide +kernel)⟩
theorem lw_p88 : lw_okq (⟨"BellRibbonsModel", "picture", "()J"⟩, 85) := ⟨⟨by decide +kernel, by decide +kernel⟩, List.mem_of_getElem? (i := 1147) (by decide +kernel), List.mem_of_getElem? (i := 1692) (by decide +kernel), List.mem_of_getElem? (i := 1693) (by decide +kernel)⟩
theorem lw_p89 : lw_okq (⟨"BellRibbonsModel", "laysFalse", "(J)V"⟩, 85) := ⟨⟨by decide +kernel, by decide +kernel⟩, List.mem_of_getElem? (i := 1147) (by decide +kernel), List.mem_of_getElem? (i := 1705) (by decide +kernel), List.mem_of_getElem? (i := 1706) (by decide +kernel)⟩
theorem lw_p90 : lw_okq (⟨"BellRibbonsModel", "mostAlike", "(I)I"⟩, 85) := ⟨⟨by decide +kernel, by decide +kernel⟩, List.mem_of_getElem? (i := 1147) (by decide +kernel), List.mem_of_getElem? (i := 1709) (by decide +kernel), List.mem_of_getElem? (i := 1710) (by decide +kernel)⟩
theorem lw_p91 : lw_okq (⟨"BellRibbonsModel", "isFraud", "(IIII)Z"⟩, 85) := ⟨⟨by decide +kernel, by decide +kernel⟩, List.mem_of_getElem? (i := 1147) (by decide +kernel), List.mem_of_getElem? (i := 1717) (by decide +kernel), List.mem_of_getElem? (i := 1718) (by decide +kernel)⟩
theorem lw_p92 : lw_okq (⟨"BellRibbonsModel", "isUnseen", "(I)Z"⟩, 85) := ⟨⟨by decide +kernel, by decide +kernel⟩, List.mem_of_getElem? (i := 1147) (by decide +kernel), List.mem_of_getElem? (i := 1721) (by decide +kernel), List.mem_of_getElem? (i := 1722) (by decide +kernel)⟩
theorem lw_p93 : lw_okq (⟨"BellRibbonsModel", "laysDebts", "()V"⟩, 85) := ⟨⟨by decide +kernel, by decide +kernel⟩, List.mem_of_getElem? (i := 1147) (by decide +kernel), List.mem_of_getElem? (i := 1729) (by decide +kernel), List.mem_of_getElem? (i := 1730) (by decide +kernel)⟩
theorem lw_p94 : lw_okq (⟨"BellRibbonsModel", "findsRing", "()V"⟩, 85) := ⟨⟨by decide +kernel, by decide +kernel⟩, List.mem_of_getElem? (i := 1147) (by decide +kernel), List.mem_of_getElem? (i := 1737) (by decide +kernel), List.mem_of_getElem? (i := 1738) (by decide +kernel)⟩
theorem lw_p95 : lw_okq (⟨"BellRibbonsModel", "isOn", "(II)Z"⟩, 85) := ⟨⟨by decide +kernel, by decide +kernel⟩, List.mem_of_getElem? (i := 1147) (by decide +kernel), List.mem_of_getElem? (i := 1741) (by decide +kernel), List.mem_of_getElem? (i := 1742) (by decide +kernel)⟩
def lw_privs_6 : List (MethodName × Nat) := [(⟨"BellRibbonsModel", "byteAt", "(I)I"⟩, 85), (⟨"BellRibbonsModel", "hangsBy", "(II)V"⟩, 85), (⟨"BellRibbonsModel", "sumOfLeans", "()I"⟩, 85), (⟨"BellRibbonsModel", "goesOn", "(I)Z"⟩, 85), (⟨"BellRibbonsModel", "seenMany", "()I"⟩, 85), (⟨"BellRibbonsModel", "toldPicture", "(I)J"⟩, 85), (⟨"BellRibbonsModel", "lengthsOf", "(IJ)I"⟩, 85), (⟨"BellRibbonsModel", "canBe", "(IIJ)Z"⟩, 85), (⟨"BellRibbonsModel", "picture", "()J"⟩, 85), (⟨"BellRibbonsModel", "laysFalse", "(J)V"⟩, 85), (⟨"BellRibbonsModel", "mostAlike", "(I)I"⟩, 85), (⟨"BellRibbonsModel", "isFraud", "(IIII)Z"⟩, 85), (⟨"BellRibbonsModel", "isUnseen", "(I)Z"⟩, 85), (⟨"BellRibbonsModel", "laysDebts", "()V"⟩, 85), (⟨"BellRibbonsModel", "findsRing", "()V"⟩, 85), (⟨"BellRibbonsModel", "isOn", "(II)Z"⟩, 85)]
theorem lw_r6 : ∀ q ∈ lw_privs_6, lw_okq q := List.forall_mem_cons.mpr ⟨lw_p80, List.forall_mem_cons.mpr ⟨lw_p81, List.forall_mem_cons.mpr ⟨lw_p82, List.forall_mem_cons.mpr ⟨lw_p83, List.forall_mem_cons.mpr ⟨lw_p84, List.forall_mem_cons.mpr ⟨lw_p85, List.forall_mem_cons.mpr ⟨lw_p86, List.forall_mem_cons.mpr ⟨lw_p87, List.forall_mem_cons.mpr ⟨lw_p88, List.forall_mem_cons.mpr ⟨lw_p89, List.forall_mem_cons.mpr ⟨lw_p90, List.forall_mem_cons.mpr ⟨lw_p91, List.forall_mem_cons.mpr ⟨lw_p92, List.forall_mem_cons.mpr ⟨lw_p93, List.forall_mem_cons.mpr ⟨lw_p94, List.forall_mem_cons.mpr ⟨lw_p95, fun _ h => absurd h List.not_mem_nil⟩⟩⟩⟩⟩⟩⟩⟩⟩⟩⟩⟩⟩⟩⟩⟩
theorem lw_p96 : lw_okq (⟨"BellRibbonsModel", "looksAt", "(I)V"⟩, 85) := ⟨⟨by decide +kernel, by decide +kernel⟩, List.mem_of_getElem? (i := 1147) (by decide +kernel), List.mem_of_getElem? (i := 1745) (by decide +kernel), List.mem_of_getElem? (i := 1746) (by decide +kernel)⟩
theorem lw_p97 : lw_okq (⟨"BellRibbonsModel", "cuts", "(III)V"⟩, 85) := ⟨⟨by decide +kernel, by decide +kernel⟩, List.mem_of_getElem? (i := 1147) (by decide +kernel), List.mem_of_getElem? (i := 1753) (by decide +kernel), List.mem_of_getElem? (i := 1754) (by decide +kernel)⟩
theorem lw_p98 : lw_okq (⟨"BellRibbonsModel", "isTipped", "(II)Z"⟩, 85) := ⟨⟨by decide +kernel, by decide +kernel⟩, List.mem_of_getElem? (i := 1147) (by decide +kernel), List.mem_of_getElem? (i := 1765) (by decide +kernel), List.mem_of_getElem? (i := 1766) (by decide +kernel)⟩
theorem lw_p99 : lw_okq (⟨"BellRibbonsModel", "whiteOf", "(I)I"⟩, 85) := ⟨⟨by decide +kernel, by decide +kernel⟩, List.mem_of_getElem? (i := 1147) (by decide +kernel), List.mem_of_getElem? (i := 1769) (by decide +kernel), List.mem_of_getElem? (i := 1770) (by decide +kernel)⟩
theorem lw_p100 : lw_okq (⟨"BellRibbonsModel", "getsBy", "(II)I"⟩, 85) := ⟨⟨by decide +kernel, by decide +kernel⟩, List.mem_of_getElem? (i := 1147) (by decide +kernel), List.mem_of_getElem? (i := 1781) (by decide +kernel), List.mem_of_getElem? (i := 1782) (by decide +kernel)⟩
theorem lw_p101 : lw_okq (⟨"BellRibbonsModel", "someLeans", "()Z"⟩, 85) := ⟨⟨by decide +kernel, by decide +kernel⟩, List.mem_of_getElem? (i := 1147) (by decide +kernel), List.mem_of_getElem? (i := 1796) (by decide +kernel), List.mem_of_getElem? (i := 1797) (by decide +kernel)⟩
theorem lw_p102 : lw_okq (⟨"BellRibbonsModel", "hanging", "()I"⟩, 85) := ⟨⟨by decide +kernel, by decide +kernel⟩, List.mem_of_getElem? (i := 1147) (by decide +kernel), List.mem_of_getElem? (i := 1804) (by decide +kernel), List.mem_of_getElem? (i := 1805) (by decide +kernel)⟩
theorem lw_p103 : lw_okq (⟨"BellRibbonsModel", "numberAt", "(I)I"⟩, 85) := ⟨⟨by decide +kernel, by decide +kernel⟩, List.mem_of_getElem? (i := 1147) (by decide +kernel), List.mem_of_getElem? (i := 1816) (by decide +kernel), List.mem_of_getElem? (i := 1817) (by decide +kernel)⟩
def lw_privs_7 : List (MethodName × Nat) := [(⟨"BellRibbonsModel", "looksAt", "(I)V"⟩, 85), (⟨"BellRibbonsModel", "cuts", "(III)V"⟩, 85), (⟨"BellRibbonsModel", "isTipped", "(II)Z"⟩, 85), (⟨"BellRibbonsModel", "whiteOf", "(I)I"⟩, 85), (⟨"BellRibbonsModel", "getsBy", "(II)I"⟩, 85), (⟨"BellRibbonsModel", "someLeans", "()Z"⟩, 85), (⟨"BellRibbonsModel", "hanging", "()I"⟩, 85), (⟨"BellRibbonsModel", "numberAt", "(I)I"⟩, 85)]
theorem lw_r7 : ∀ q ∈ lw_privs_7, lw_okq q := List.forall_mem_cons.mpr ⟨lw_p96, List.forall_mem_cons.mpr ⟨lw_p97, List.forall_mem_cons.mpr ⟨lw_p98, List.forall_mem_cons.mpr ⟨lw_p99, List.forall_mem_cons.mpr ⟨lw_p100, List.forall_mem_cons.mpr ⟨lw_p101, List.forall_mem_cons.mpr ⟨lw_p102, List.forall_mem_cons.mpr ⟨lw_p103, fun _ h => absurd h List.not_mem_nil⟩⟩⟩⟩⟩⟩⟩⟩
def lw_privs : List (MethodName × Nat) := lw_privs_1 ++ (lw_privs_2 ++ (lw_privs_3 ++ (lw_privs_4 ++ (lw_privs_5 ++ (lw_privs_6 ++ (lw_privs_7))))))
def lw_tbl : List Cond := k2_sels lw_privs ++ tables_1
theorem lw_privs_ok : ∀ q ∈ lw_privs, lw_okq q := by
  show ∀ q ∈ lw_privs_1 ++ (lw_privs_2 ++ (lw_privs_3 ++ (lw_privs_4 ++ (lw_privs_5 ++ (lw_privs_6 ++ (lw_privs_7)))))), lw_okq q
  exact List.forall_mem_append.mpr ⟨lw_r1, List.forall_mem_append.mpr ⟨lw_r2, List.forall_mem_append.mpr ⟨lw_r3, List.forall_mem_append.mpr ⟨lw_r4, List.forall_mem_append.mpr ⟨lw_r5, List.forall_mem_append.mpr ⟨lw_r6, lw_r7⟩⟩⟩⟩⟩⟩
-- ===== end of PART A; then your names; then what follows =====
end
section
def RX0 : String := "BellRibbons$Debts"
def TX0 : u_T := fun k => match k with
  | 0 => ("BellRibbons$Debts", "ledger", "LBellRibbons$Ledger;", true)
  | 1 => ("BellRibbons$Debts", "sums", "[[I", true)
  | 2 => ("BellRibbons$Debts", "row", "[I", true)
  | 3 => ("BellRibbons$Debts", "best", "[I", true)
  | 4 => ("BellRibbons$Debts", "people", "I", false)
  | _ => ("BellRibbons$Debts", "cut", "I", false)
def tyX0 : Nat → FieldType := fun k => match k with
  | 0 => .object "BellRibbons$Ledger"
  | 1 => .array (.array .int)
  | 2 => .array .int
  | 3 => .array .int
  | 4 => .int
  | _ => .int
abbrev wsX00 : List Cond := u_ws RX0 TX0 6
theorem nmX0 : ∀ a, a < 6 → ∀ b, b < 6 → a ≠ b → (TX0 a).2.1 ≠ (TX0 b).2.1 := by decide +kernel
theorem tyX0_ok : ∀ k, k < 6 → parseFieldDescriptor (TX0 k).2.2.1 = some (tyX0 k) := by decide +kernel
abbrev cX0_init : ByteArray := prog_2_method_1_code
def yX0_init : MethodName := ⟨RX0, "<init>", "(LBellRibbons$Ledger;)V"⟩
abbrev cX0_findBest : ByteArray := prog_2_method_2_code
def yX0_findBest : MethodName := ⟨RX0, "findBest", "()Z"⟩
abbrev cX0_addUp : ByteArray := prog_2_method_3_code
def yX0_addUp : MethodName := ⟨RX0, "addUp", "()V"⟩
abbrev cX0_goOn : ByteArray := prog_2_method_4_code
def yX0_goOn : MethodName := ⟨RX0, "goOn", "(III)V"⟩
abbrev cX0_compare : ByteArray := prog_2_method_5_code
def yX0_compare : MethodName := ⟨RX0, "compare", "(II)V"⟩
abbrev cX0_cutAll : ByteArray := prog_2_method_6_code
def yX0_cutAll : MethodName := ⟨RX0, "cutAll", "()I"⟩
abbrev cX0_cutRing : ByteArray := prog_2_method_7_code
def yX0_cutRing : MethodName := ⟨RX0, "cutRing", "()V"⟩
def RX1 : String := "BellRibbons$Law"
def TX1 : u_T := fun k => match k with
  | 0 => ("BellRibbons$Law", "code", "[I", true)
  | 1 => ("BellRibbons$Law", "operand", "[I", true)
  | 2 => ("BellRibbons$Law", "letter", "[I", true)
  | 3 => ("BellRibbons$Law", "amountAt", "[I", true)
  | 4 => ("BellRibbons$Law", "conditionAt", "[I", true)
  | 5 => ("BellRibbons$Law", "facts", "[I", true)
  | 6 => ("BellRibbons$Law", "stack", "[I", true)
  | 7 => ("BellRibbons$Law", "size", "I", false)
  | 8 => ("BellRibbons$Law", "clauses", "I", false)
  | 9 => ("BellRibbons$Law", "top", "I", false)
  | 10 => ("BellRibbons$Law", "holds", "Z", false)
  | _ => ("BellRibbons$Law", "refused", "Z", false)
def tyX1 : Nat → FieldType := fun k => match k with
  | 0 => .array .int
  | 1 => .array .int
  | 2 => .array .int
  | 3 => .array .int
  | 4 => .array .int
  | 5 => .array .int
  | 6 => .array .int
  | 7 => .int
  | 8 => .int
  | 9 => .int
  | 10 => .boolean
  | _ => .boolean
abbrev wsX10 : List Cond := u_ws RX1 TX1 12
theorem nmX1 : ∀ a, a < 12 → ∀ b, b < 12 → a ≠ b → (TX1 a).2.1 ≠ (TX1 b).2.1 := by decide +kernel
theorem tyX1_ok : ∀ k, k < 12 → parseFieldDescriptor (TX1 k).2.2.1 = some (tyX1 k) := by decide +kernel
abbrev cX1_init : ByteArray := prog_3_method_1_code
def yX1_init : MethodName := ⟨RX1, "<init>", "()V"⟩
abbrev cX1_look : ByteArray := prog_3_method_2_code
def yX1_look : MethodName := ⟨RX1, "look", "(LBellRibbons$Ledger;III)V"⟩
abbrev cX1_lookAt : ByteArray := prog_3_method_3_code
def yX1_lookAt : MethodName := ⟨RX1, "lookAt", "(LBellRibbons$Ledger;IIIII)V"⟩
abbrev cX1_factOf : ByteArray := prog_3_method_4_code
def yX1_factOf : MethodName := ⟨RX1, "factOf", "(I)I"⟩
abbrev cX1_ask : ByteArray := prog_3_method_5_code
def yX1_ask : MethodName := ⟨RX1, "ask", "(I)I"⟩
abbrev cX1_reckon : ByteArray := prog_3_method_6_code
def yX1_reckon : MethodName := ⟨RX1, "reckon", "(I)V"⟩
abbrev cX1_put : ByteArray := prog_3_method_7_code
def yX1_put : MethodName := ⟨RX1, "put", "(I)V"⟩
abbrev cX1_combine : ByteArray := prog_3_method_8_code
def yX1_combine : MethodName := ⟨RX1, "combine", "(I)V"⟩
abbrev cX1_compare : ByteArray := prog_3_method_9_code
def yX1_compare : MethodName := ⟨RX1, "compare", "(I)V"⟩
abbrev cX1_forget : ByteArray := prog_3_method_10_code
def yX1_forget : MethodName := ⟨RX1, "forget", "()V"⟩
abbrev cX1_startClause : ByteArray := prog_3_method_11_code
def yX1_startClause : MethodName := ⟨RX1, "startClause", "(I)V"⟩
abbrev cX1_startCondition : ByteArray := prog_3_method_12_code
def yX1_startCondition : MethodName := ⟨RX1, "startCondition", "()V"⟩
abbrev cX1_emit : ByteArray := prog_3_method_13_code
def yX1_emit : MethodName := ⟨RX1, "emit", "(II)V"⟩
abbrev cX1_emitJump : ByteArray := prog_3_method_14_code
def yX1_emitJump : MethodName := ⟨RX1, "emitJump", "(II)I"⟩
abbrev cX1_aimHere : ByteArray := prog_3_method_15_code
def yX1_aimHere : MethodName := ⟨RX1, "aimHere", "(I)V"⟩
abbrev cX1_copyFrom : ByteArray := prog_3_method_16_code
def yX1_copyFrom : MethodName := ⟨RX1, "copyFrom", "(LBellRibbons$Law;)V"⟩
def RX2 : String := "BellRibbons$LawReader"
def TX2 : u_T := fun k => match k with
  | 0 => ("BellRibbons$LawReader", "draft", "LBellRibbons$Law;", true)
  | 1 => ("BellRibbons$LawReader", "text", "LBellRibbons$Tape;", true)
  | 2 => ("BellRibbons$LawReader", "length", "I", false)
  | 3 => ("BellRibbons$LawReader", "at", "I", false)
  | _ => ("BellRibbons$LawReader", "fault", "I", false)
def tyX2 : Nat → FieldType := fun k => match k with
  | 0 => .object "BellRibbons$Law"
  | 1 => .object "BellRibbons$Tape"
  | 2 => .int
  | 3 => .int
  | _ => .int
abbrev wsX20 : List Cond := u_ws RX2 TX2 5
theorem nmX2 : ∀ a, a < 5 → ∀ b, b < 5 → a ≠ b → (TX2 a).2.1 ≠ (TX2 b).2.1 := by decide +kernel
theorem tyX2_ok : ∀ k, k < 5 → parseFieldDescriptor (TX2 k).2.2.1 = some (tyX2 k) := by decide +kernel
abbrev cX2_init : ByteArray := prog_4_method_1_code
def yX2_init : MethodName := ⟨RX2, "<init>", "(LBellRibbons$Tape;)V"⟩
abbrev cX2_read : ByteArray := prog_4_method_2_code
def yX2_read : MethodName := ⟨RX2, "read", "(I)I"⟩
abbrev cX2_next : ByteArray := prog_4_method_3_code
def yX2_next : MethodName := ⟨RX2, "next", "()I"⟩
abbrev cX2_fail : ByteArray := prog_4_method_4_code
def yX2_fail : MethodName := ⟨RX2, "fail", "(I)Z"⟩
abbrev cX2_take : ByteArray := prog_4_method_5_code
def yX2_take : MethodName := ⟨RX2, "take", "(I)Z"⟩
abbrev cX2_open : ByteArray := prog_4_method_6_code
def yX2_open : MethodName := ⟨RX2, "open", "(II)Z"⟩
abbrev cX2_readClause : ByteArray := prog_4_method_7_code
def yX2_readClause : MethodName := ⟨RX2, "readClause", "()Z"⟩
abbrev cX2_readCondition : ByteArray := prog_4_method_8_code
def yX2_readCondition : MethodName := ⟨RX2, "readCondition", "(I)Z"⟩
abbrev cX2_readPart : ByteArray := prog_4_method_9_code
def yX2_readPart : MethodName := ⟨RX2, "readPart", "(I)Z"⟩
abbrev cX2_readPiece : ByteArray := prog_4_method_10_code
def yX2_readPiece : MethodName := ⟨RX2, "readPiece", "(I)Z"⟩
abbrev cX2_readSum : ByteArray := prog_4_method_11_code
def yX2_readSum : MethodName := ⟨RX2, "readSum", "(I)Z"⟩
abbrev cX2_readTerm : ByteArray := prog_4_method_12_code
def yX2_readTerm : MethodName := ⟨RX2, "readTerm", "(I)Z"⟩
abbrev cX2_readFactor : ByteArray := prog_4_method_13_code
def yX2_readFactor : MethodName := ⟨RX2, "readFactor", "(I)Z"⟩
abbrev cX2_readNumber : ByteArray := prog_4_method_14_code
def yX2_readNumber : MethodName := ⟨RX2, "readNumber", "()Z"⟩
abbrev cX2_isDigit : ByteArray := prog_4_method_15_code
def yX2_isDigit : MethodName := ⟨RX2, "isDigit", "(I)Z"⟩
def RX3 : String := "BellRibbons$Ledger"
def TX3 : u_T := fun k => match k with
  | 0 => ("BellRibbons$Ledger", "on", "[I", true)
  | 1 => ("BellRibbons$Ledger", "rodArm", "[I", true)
  | 2 => ("BellRibbons$Ledger", "stiff", "[I", true)
  | 3 => ("BellRibbons$Ledger", "seen", "[Z", true)
  | 4 => ("BellRibbons$Ledger", "wet", "[Z", true)
  | 5 => ("BellRibbons$Ledger", "rod", "[I", true)
  | 6 => ("BellRibbons$Ledger", "arm", "[I", true)
  | 7 => ("BellRibbons$Ledger", "length", "[I", true)
  | 8 => ("BellRibbons$Ledger", "colour", "[I", true)
  | 9 => ("BellRibbons$Ledger", "owner", "[I", true)
  | 10 => ("BellRibbons$Ledger", "to", "[I", true)
  | 11 => ("BellRibbons$Ledger", "hangs", "[Z", true)
  | 12 => ("BellRibbons$Ledger", "rods", "I", false)
  | 13 => ("BellRibbons$Ledger", "ribbons", "I", false)
  | 14 => ("BellRibbons$Ledger", "wind", "I", false)
  | _ => ("BellRibbons$Ledger", "x", "I", false)
def tyX3 : Nat → FieldType := fun k => match k with
  | 0 => .array .int
  | 1 => .array .int
  | 2 => .array .int
  | 3 => .array .boolean
  | 4 => .array .boolean
  | 5 => .array .int
  | 6 => .array .int
  | 7 => .array .int
  | 8 => .array .int
  | 9 => .array .int
  | 10 => .array .int
  | 11 => .array .boolean
  | 12 => .int
  | 13 => .int
  | 14 => .int
  | _ => .int
abbrev wsX30 : List Cond := u_ws RX3 TX3 16
theorem nmX3 : ∀ a, a < 16 → ∀ b, b < 16 → a ≠ b → (TX3 a).2.1 ≠ (TX3 b).2.1 := by decide +kernel
theorem tyX3_ok : ∀ k, k < 16 → parseFieldDescriptor (TX3 k).2.2.1 = some (tyX3 k) := by decide +kernel
abbrev cX3_init : ByteArray := prog_5_method_1_code
def yX3_init : MethodName := ⟨RX3, "<init>", "()V"⟩
abbrev cX3_addRod : ByteArray := prog_5_method_2_code
def yX3_addRod : MethodName := ⟨RX3, "addRod", "(II)I"⟩
abbrev cX3_addRibbon : ByteArray := prog_5_method_3_code
def yX3_addRibbon : MethodName := ⟨RX3, "addRibbon", "(IIIIII)I"⟩
abbrev cX3_hasRod : ByteArray := prog_5_method_4_code
def yX3_hasRod : MethodName := ⟨RX3, "hasRod", "(I)Z"⟩
abbrev cX3_hasRibbon : ByteArray := prog_5_method_5_code
def yX3_hasRibbon : MethodName := ⟨RX3, "hasRibbon", "(I)Z"⟩
abbrev cX3_isHanging : ByteArray := prog_5_method_6_code
def yX3_isHanging : MethodName := ⟨RX3, "isHanging", "(I)Z"⟩
abbrev cX3_isWhiteOf : ByteArray := prog_5_method_7_code
def yX3_isWhiteOf : MethodName := ⟨RX3, "isWhiteOf", "(II)Z"⟩
abbrev cX3_isDebt : ByteArray := prog_5_method_8_code
def yX3_isDebt : MethodName := ⟨RX3, "isDebt", "(III)Z"⟩
abbrev cX3_hanging : ByteArray := prog_5_method_9_code
def yX3_hanging : MethodName := ⟨RX3, "hanging", "()I"⟩
abbrev cX3_seenRods : ByteArray := prog_5_method_10_code
def yX3_seenRods : MethodName := ⟨RX3, "seenRods", "()I"⟩
abbrev cX3_balanceOf : ByteArray := prog_5_method_11_code
def yX3_balanceOf : MethodName := ⟨RX3, "balanceOf", "(I)I"⟩
abbrev cX3_debt : ByteArray := prog_5_method_12_code
def yX3_debt : MethodName := ⟨RX3, "debt", "(II)I"⟩
abbrev cX3_cutDebt : ByteArray := prog_5_method_13_code
def yX3_cutDebt : MethodName := ⟨RX3, "cutDebt", "(III)V"⟩
abbrev cX3_copyFrom : ByteArray := prog_5_method_14_code
def yX3_copyFrom : MethodName := ⟨RX3, "copyFrom", "(LBellRibbons$Ledger;)V"⟩
def RX4 : String := "BellRibbons$Leveller"
def TX4 : u_T := fun k => match k with
  | 0 => ("BellRibbons$Leveller", "ledger", "LBellRibbons$Ledger;", true)
  | 1 => ("BellRibbons$Leveller", "law", "LBellRibbons$Law;", true)
  | 2 => ("BellRibbons$Leveller", "scale", "LBellRibbons$Scale;", true)
  | 3 => ("BellRibbons$Leveller", "ribbons", "[I", true)
  | 4 => ("BellRibbons$Leveller", "rods", "[I", true)
  | 5 => ("BellRibbons$Leveller", "arms", "[I", true)
  | 6 => ("BellRibbons$Leveller", "heavy", "[[I", true)
  | 7 => ("BellRibbons$Leveller", "push", "[[I", true)
  | 8 => ("BellRibbons$Leveller", "row", "[I", true)
  | 9 => ("BellRibbons$Leveller", "best", "[I", true)
  | 10 => ("BellRibbons$Leveller", "told", "I", false)
  | _ => ("BellRibbons$Leveller", "least", "I", false)
def tyX4 : Nat → FieldType := fun k => match k with
  | 0 => .object "BellRibbons$Ledger"
  | 1 => .object "BellRibbons$Law"
  | 2 => .object "BellRibbons$Scale"
  | 3 => .array .int
  | 4 => .array .int
  | 5 => .array .int
  | 6 => .array (.array .int)
  | 7 => .array (.array .int)
  | 8 => .array .int
  | 9 => .array .int
  | 10 => .int
  | _ => .int
abbrev wsX40 : List Cond := u_ws RX4 TX4 12
theorem nmX4 : ∀ a, a < 12 → ∀ b, b < 12 → a ≠ b → (TX4 a).2.1 ≠ (TX4 b).2.1 := by decide +kernel
theorem tyX4_ok : ∀ k, k < 12 → parseFieldDescriptor (TX4 k).2.2.1 = some (tyX4 k) := by decide +kernel
abbrev cX4_init : ByteArray := prog_6_method_1_code
def yX4_init : MethodName := ⟨RX4, "<init>", "(LBellRibbons$Ledger;LBellRibbons$Law;LBellRibbons$Scale;)V"⟩
abbrev cX4_read : ByteArray := prog_6_method_2_code
def yX4_read : MethodName := ⟨RX4, "read", "(LBellRibbons$Tape;I)Z"⟩
abbrev cX4_isTwice : ByteArray := prog_6_method_3_code
def yX4_isTwice : MethodName := ⟨RX4, "isTwice", "(I)Z"⟩
abbrev cX4_search : ByteArray := prog_6_method_4_code
def yX4_search : MethodName := ⟨RX4, "search", "()V"⟩
abbrev cX4_weighAtPlaces : ByteArray := prog_6_method_5_code
def yX4_weighAtPlaces : MethodName := ⟨RX4, "weighAtPlaces", "(I)V"⟩
abbrev cX4_hangFrom : ByteArray := prog_6_method_6_code
def yX4_hangFrom : MethodName := ⟨RX4, "hangFrom", "(II)V"⟩
abbrev cX4_compare : ByteArray := prog_6_method_7_code
def yX4_compare : MethodName := ⟨RX4, "compare", "()V"⟩
abbrev cX4_hang : ByteArray := prog_6_method_8_code
def yX4_hang : MethodName := ⟨RX4, "hang", "()V"⟩
def RX5 : String := "BellRibbons$Payments"
def TX5 : u_T := fun k => match k with
  | 0 => ("BellRibbons$Payments", "ledger", "LBellRibbons$Ledger;", true)
  | 1 => ("BellRibbons$Payments", "law", "LBellRibbons$Law;", true)
  | 2 => ("BellRibbons$Payments", "days", "[LBellRibbons$Scale;", true)
  | 3 => ("BellRibbons$Payments", "winds", "[I", true)
  | 4 => ("BellRibbons$Payments", "leans", "[[I", true)
  | 5 => ("BellRibbons$Payments", "moreHeavy", "[[I", true)
  | 6 => ("BellRibbons$Payments", "morePush", "[[I", true)
  | 7 => ("BellRibbons$Payments", "from", "I", false)
  | 8 => ("BellRibbons$Payments", "to", "I", false)
  | 9 => ("BellRibbons$Payments", "first", "I", false)
  | 10 => ("BellRibbons$Payments", "second", "I", false)
  | _ => ("BellRibbons$Payments", "others", "I", false)
def tyX5 : Nat → FieldType := fun k => match k with
  | 0 => .object "BellRibbons$Ledger"
  | 1 => .object "BellRibbons$Law"
  | 2 => .array (.object "BellRibbons$Scale")
  | 3 => .array .int
  | 4 => .array (.array .int)
  | 5 => .array (.array .int)
  | 6 => .array (.array .int)
  | 7 => .int
  | 8 => .int
  | 9 => .int
  | 10 => .int
  | _ => .int
abbrev wsX50 : List Cond := u_ws RX5 TX5 12
theorem nmX5 : ∀ a, a < 12 → ∀ b, b < 12 → a ≠ b → (TX5 a).2.1 ≠ (TX5 b).2.1 := by decide +kernel
theorem tyX5_ok : ∀ k, k < 12 → parseFieldDescriptor (TX5 k).2.2.1 = some (tyX5 k) := by decide +kernel
abbrev cX5_init : ByteArray := prog_7_method_1_code
def yX5_init : MethodName := ⟨RX5, "<init>", "(LBellRibbons$Ledger;LBellRibbons$Law;)V"⟩
abbrev cX5_findPayment : ByteArray := prog_7_method_2_code
def yX5_findPayment : MethodName := ⟨RX5, "findPayment", "(III)Z"⟩
abbrev cX5_tryKnots : ByteArray := prog_7_method_3_code
def yX5_tryKnots : MethodName := ⟨RX5, "tryKnots", "(II)V"⟩
abbrev cX5_carryOut : ByteArray := prog_7_method_4_code
def yX5_carryOut : MethodName := ⟨RX5, "carryOut", "(I)V"⟩
abbrev cX5_findFraud : ByteArray := prog_7_method_5_code
def yX5_findFraud : MethodName := ⟨RX5, "findFraud", "(IILBellRibbons$Tape;I)I"⟩
abbrev cX5_mostPayable : ByteArray := prog_7_method_6_code
def yX5_mostPayable : MethodName := ⟨RX5, "mostPayable", "()I"⟩
abbrev cX5_findUnseen : ByteArray := prog_7_method_7_code
def yX5_findUnseen : MethodName := ⟨RX5, "findUnseen", "(II)Z"⟩
abbrev cX5_isUnseen : ByteArray := prog_7_method_8_code
def yX5_isUnseen : MethodName := ⟨RX5, "isUnseen", "(III)Z"⟩
abbrev cX5_canCut : ByteArray := prog_7_method_9_code
def yX5_canCut : MethodName := ⟨RX5, "canCut", "(II)Z"⟩
abbrev cX5_canKnot : ByteArray := prog_7_method_10_code
def yX5_canKnot : MethodName := ⟨RX5, "canKnot", "(II)Z"⟩
abbrev cX5_startDay : ByteArray := prog_7_method_11_code
def yX5_startDay : MethodName := ⟨RX5, "startDay", "(II)V"⟩
abbrev cX5_weighChanges : ByteArray := prog_7_method_12_code
def yX5_weighChanges : MethodName := ⟨RX5, "weighChanges", "(II)V"⟩
abbrev cX5_shift : ByteArray := prog_7_method_13_code
def yX5_shift : MethodName := ⟨RX5, "shift", "(III)V"⟩
def RX6 : String := "BellRibbons$Rush"
def TX6 : u_T := fun k => match k with
  | 0 => ("BellRibbons$Rush", "ledger", "LBellRibbons$Ledger;", true)
  | 1 => ("BellRibbons$Rush", "scale", "LBellRibbons$Scale;", true)
  | 2 => ("BellRibbons$Rush", "told", "[I", true)
  | 3 => ("BellRibbons$Rush", "lengths", "[I", true)
  | 4 => ("BellRibbons$Rush", "moments", "[I", true)
  | 5 => ("BellRibbons$Rush", "hope", "[I", true)
  | 6 => ("BellRibbons$Rush", "served", "I", false)
  | _ => ("BellRibbons$Rush", "got", "I", false)
def tyX6 : Nat → FieldType := fun k => match k with
  | 0 => .object "BellRibbons$Ledger"
  | 1 => .object "BellRibbons$Scale"
  | 2 => .array .int
  | 3 => .array .int
  | 4 => .array .int
  | 5 => .array .int
  | 6 => .int
  | _ => .int
abbrev wsX60 : List Cond := u_ws RX6 TX6 8
theorem nmX6 : ∀ a, a < 8 → ∀ b, b < 8 → a ≠ b → (TX6 a).2.1 ≠ (TX6 b).2.1 := by decide +kernel
theorem tyX6_ok : ∀ k, k < 8 → parseFieldDescriptor (TX6 k).2.2.1 = some (tyX6 k) := by decide +kernel
abbrev cX6_init : ByteArray := prog_8_method_1_code
def yX6_init : MethodName := ⟨RX6, "<init>", "(LBellRibbons$Ledger;LBellRibbons$Scale;)V"⟩
abbrev cX6_readPeople : ByteArray := prog_8_method_2_code
def yX6_readPeople : MethodName := ⟨RX6, "readPeople", "(LBellRibbons$Tape;I)Z"⟩
abbrev cX6_weighPeople : ByteArray := prog_8_method_3_code
def yX6_weighPeople : MethodName := ⟨RX6, "weighPeople", "()V"⟩
abbrev cX6_isTipped : ByteArray := prog_8_method_4_code
def yX6_isTipped : MethodName := ⟨RX6, "isTipped", "(II)Z"⟩
abbrev cX6_happen : ByteArray := prog_8_method_5_code
def yX6_happen : MethodName := ⟨RX6, "happen", "(II)V"⟩
abbrev cX6_findBest : ByteArray := prog_8_method_6_code
def yX6_findBest : MethodName := ⟨RX6, "findBest", "(II)V"⟩
abbrev cX6_bestFrom : ByteArray := prog_8_method_7_code
def yX6_bestFrom : MethodName := ⟨RX6, "bestFrom", "(II)I"⟩
abbrev cX6_hopeBy : ByteArray := prog_8_method_8_code
def yX6_hopeBy : MethodName := ⟨RX6, "hopeBy", "(II)I"⟩
abbrev cX6_hopeOf : ByteArray := prog_8_method_9_code
def yX6_hopeOf : MethodName := ⟨RX6, "hopeOf", "(I)I"⟩
abbrev cX6_most : ByteArray := prog_8_method_10_code
def yX6_most : MethodName := ⟨RX6, "most", "()I"⟩
abbrev cX6_personAt : ByteArray := prog_8_method_11_code
def yX6_personAt : MethodName := ⟨RX6, "personAt", "(II)I"⟩
abbrev cX6_nextPerson : ByteArray := prog_8_method_12_code
def yX6_nextPerson : MethodName := ⟨RX6, "nextPerson", "(IIZ)I"⟩
def RX7 : String := "BellRibbons$Scale"
def TX7 : u_T := fun k => match k with
  | 0 => ("BellRibbons$Scale", "ledger", "LBellRibbons$Ledger;", true)
  | 1 => ("BellRibbons$Scale", "law", "LBellRibbons$Law;", true)
  | 2 => ("BellRibbons$Scale", "heavy", "[I", true)
  | 3 => ("BellRibbons$Scale", "push", "[I", true)
  | 4 => ("BellRibbons$Scale", "load", "[I", true)
  | _ => ("BellRibbons$Scale", "moment", "[I", true)
def tyX7 : Nat → FieldType := fun k => match k with
  | 0 => .object "BellRibbons$Ledger"
  | 1 => .object "BellRibbons$Law"
  | 2 => .array .int
  | 3 => .array .int
  | 4 => .array .int
  | _ => .array .int
abbrev wsX70 : List Cond := u_ws RX7 TX7 6
theorem nmX7 : ∀ a, a < 6 → ∀ b, b < 6 → a ≠ b → (TX7 a).2.1 ≠ (TX7 b).2.1 := by decide +kernel
theorem tyX7_ok : ∀ k, k < 6 → parseFieldDescriptor (TX7 k).2.2.1 = some (tyX7 k) := by decide +kernel
abbrev cX7_init : ByteArray := prog_9_method_1_code
def yX7_init : MethodName := ⟨RX7, "<init>", "(LBellRibbons$Ledger;LBellRibbons$Law;)V"⟩
abbrev cX7_weigh : ByteArray := prog_9_method_2_code
def yX7_weigh : MethodName := ⟨RX7, "weigh", "(I)V"⟩
abbrev cX7_shift : ByteArray := prog_9_method_3_code
def yX7_shift : MethodName := ⟨RX7, "shift", "(IIII)V"⟩
abbrev cX7_wouldLean : ByteArray := prog_9_method_4_code
def yX7_wouldLean : MethodName := ⟨RX7, "wouldLean", "(III[I)Z"⟩
abbrev cX7_leanBeside : ByteArray := prog_9_method_5_code
def yX7_leanBeside : MethodName := ⟨RX7, "leanBeside", "(I[I)Z"⟩
abbrev cX7_partOfMoment : ByteArray := prog_9_method_6_code
def yX7_partOfMoment : MethodName := ⟨RX7, "partOfMoment", "(I)I"⟩
abbrev cX7_lean : ByteArray := prog_9_method_7_code
def yX7_lean : MethodName := ⟨RX7, "lean", "(I)I"⟩
abbrev cX7_isSeenToLean : ByteArray := prog_9_method_8_code
def yX7_isSeenToLean : MethodName := ⟨RX7, "isSeenToLean", "()Z"⟩
abbrev cX7_isPicture : ByteArray := prog_9_method_9_code
def yX7_isPicture : MethodName := ⟨RX7, "isPicture", "([I)Z"⟩
abbrev cX7_picture : ByteArray := prog_9_method_10_code
def yX7_picture : MethodName := ⟨RX7, "picture", "()J"⟩
abbrev cX7_leansOtherThan : ByteArray := prog_9_method_11_code
def yX7_leansOtherThan : MethodName := ⟨RX7, "leansOtherThan", "([I)I"⟩
abbrev cX7_writeLeans : ByteArray := prog_9_method_12_code
def yX7_writeLeans : MethodName := ⟨RX7, "writeLeans", "([I)V"⟩
abbrev cX7_leansTogether : ByteArray := prog_9_method_13_code
def yX7_leansTogether : MethodName := ⟨RX7, "leansTogether", "()I"⟩
def RX8 : String := "BellRibbons$Tape"
def TX8 : u_T := fun k => match k with
  | 0 => ("BellRibbons$Tape", "bytes", "[I", true)
  | _ => ("BellRibbons$Tape", "size", "I", false)
def tyX8 : Nat → FieldType := fun k => match k with
  | 0 => .array .int
  | _ => .int
abbrev wsX80 : List Cond := u_ws RX8 TX8 2
theorem nmX8 : ∀ a, a < 2 → ∀ b, b < 2 → a ≠ b → (TX8 a).2.1 ≠ (TX8 b).2.1 := by decide +kernel
theorem tyX8_ok : ∀ k, k < 2 → parseFieldDescriptor (TX8 k).2.2.1 = some (tyX8 k) := by decide +kernel
abbrev cX8_init : ByteArray := prog_10_method_1_code
def yX8_init : MethodName := ⟨RX8, "<init>", "()V"⟩
abbrev cX8_hasRoom : ByteArray := prog_10_method_2_code
def yX8_hasRoom : MethodName := ⟨RX8, "hasRoom", "()Z"⟩
abbrev cX8_add : ByteArray := prog_10_method_3_code
def yX8_add : MethodName := ⟨RX8, "add", "(I)V"⟩
abbrev cX8_empty : ByteArray := prog_10_method_4_code
def yX8_empty : MethodName := ⟨RX8, "empty", "()V"⟩
abbrev cX8_byteAt : ByteArray := prog_10_method_5_code
def yX8_byteAt : MethodName := ⟨RX8, "byteAt", "(I)I"⟩
abbrev cX8_numberAt : ByteArray := prog_10_method_6_code
def yX8_numberAt : MethodName := ⟨RX8, "numberAt", "(I)I"⟩
abbrev cX8_allWithin : ByteArray := prog_10_method_7_code
def yX8_allWithin : MethodName := ⟨RX8, "allWithin", "(III)Z"⟩
def RX9 : String := "BellRibbons$Watcher"
def TX9 : u_T := fun k => match k with
  | 0 => ("BellRibbons$Watcher", "ledger", "LBellRibbons$Ledger;", true)
  | 1 => ("BellRibbons$Watcher", "law", "LBellRibbons$Law;", true)
  | 2 => ("BellRibbons$Watcher", "scale", "LBellRibbons$Scale;", true)
  | 3 => ("BellRibbons$Watcher", "told", "[I", true)
  | 4 => ("BellRibbons$Watcher", "cases", "[I", false)
  | 5 => ("BellRibbons$Watcher", "pictures", "[J", false)
  | 6 => ("BellRibbons$Watcher", "found", "I", false)
  | 7 => ("BellRibbons$Watcher", "inQuestion", "J", false)
  | 8 => ("BellRibbons$Watcher", "gustWind", "I", false)
  | _ => ("BellRibbons$Watcher", "gustCrowd", "I", false)
def tyX9 : Nat → FieldType := fun k => match k with
  | 0 => .object "BellRibbons$Ledger"
  | 1 => .object "BellRibbons$Law"
  | 2 => .object "BellRibbons$Scale"
  | 3 => .array .int
  | 4 => .array .int
  | 5 => .array .long
  | 6 => .int
  | 7 => .long
  | 8 => .int
  | _ => .int
abbrev wsX90 : List Cond := u_ws RX9 TX9 10
theorem nmX9 : ∀ a, a < 10 → ∀ b, b < 10 → a ≠ b → (TX9 a).2.1 ≠ (TX9 b).2.1 := by decide +kernel
theorem tyX9_ok : ∀ k, k < 10 → parseFieldDescriptor (TX9 k).2.2.1 = some (tyX9 k) := by decide +kernel
abbrev cX9_init : ByteArray := prog_11_method_1_code
def yX9_init : MethodName := ⟨RX9, "<init>", "(LBellRibbons$Ledger;LBellRibbons$Law;LBellRibbons$Scale;)V"⟩
abbrev cX9_readPicture : ByteArray := prog_11_method_2_code
def yX9_readPicture : MethodName := ⟨RX9, "readPicture", "(LBellRibbons$Tape;)Z"⟩
abbrev cX9_startWatch : ByteArray := prog_11_method_3_code
def yX9_startWatch : MethodName := ⟨RX9, "startWatch", "()V"⟩
abbrev cX9_isInQuestion : ByteArray := prog_11_method_4_code
def yX9_isInQuestion : MethodName := ⟨RX9, "isInQuestion", "(I)Z"⟩
abbrev cX9_mayBe : ByteArray := prog_11_method_5_code
def yX9_mayBe : MethodName := ⟨RX9, "mayBe", "(II)Z"⟩
abbrev cX9_falseLengths : ByteArray := prog_11_method_6_code
def yX9_falseLengths : MethodName := ⟨RX9, "falseLengths", "(I)I"⟩
abbrev cX9_suspectBits : ByteArray := prog_11_method_7_code
def yX9_suspectBits : MethodName := ⟨RX9, "suspectBits", "()J"⟩
abbrev cX9_collectCases : ByteArray := prog_11_method_8_code
def yX9_collectCases : MethodName := ⟨RX9, "collectCases", "()I"⟩
abbrev cX9_findGust : ByteArray := prog_11_method_9_code
def yX9_findGust : MethodName := ⟨RX9, "findGust", "(LBellRibbons$Tape;I)V"⟩
abbrev cX9_crowdBy : ByteArray := prog_11_method_10_code
def yX9_crowdBy : MethodName := ⟨RX9, "crowdBy", "(I)I"⟩
abbrev cX9_pictureOf : ByteArray := prog_11_method_11_code
def yX9_pictureOf : MethodName := ⟨RX9, "pictureOf", "(III)J"⟩
abbrev cX9_sort : ByteArray := prog_11_method_12_code
def yX9_sort : MethodName := ⟨RX9, "sort", "([JI)V"⟩
abbrev cX9_longestStretch : ByteArray := prog_11_method_13_code
def yX9_longestStretch : MethodName := ⟨RX9, "longestStretch", "([JI)I"⟩
def RX10 : String := "BellRibbons"
def TX10 : u_T := fun k => match k with
  | 0 => ("BellRibbons", "tape", "LBellRibbons$Tape;", true)
  | 1 => ("BellRibbons", "ledger", "LBellRibbons$Ledger;", true)
  | 2 => ("BellRibbons", "kept", "LBellRibbons$Ledger;", true)
  | 3 => ("BellRibbons", "law", "LBellRibbons$Law;", true)
  | 4 => ("BellRibbons", "reader", "LBellRibbons$LawReader;", true)
  | 5 => ("BellRibbons", "scale", "LBellRibbons$Scale;", true)
  | 6 => ("BellRibbons", "payments", "LBellRibbons$Payments;", true)
  | 7 => ("BellRibbons", "leveller", "LBellRibbons$Leveller;", true)
  | 8 => ("BellRibbons", "watcher", "LBellRibbons$Watcher;", true)
  | 9 => ("BellRibbons", "debts", "LBellRibbons$Debts;", true)
  | 10 => ("BellRibbons", "rush", "LBellRibbons$Rush;", true)
  | _ => ("BellRibbons", "isKept", "Z", false)
def tyX10 : Nat → FieldType := fun k => match k with
  | 0 => .object "BellRibbons$Tape"
  | 1 => .object "BellRibbons$Ledger"
  | 2 => .object "BellRibbons$Ledger"
  | 3 => .object "BellRibbons$Law"
  | 4 => .object "BellRibbons$LawReader"
  | 5 => .object "BellRibbons$Scale"
  | 6 => .object "BellRibbons$Payments"
  | 7 => .object "BellRibbons$Leveller"
  | 8 => .object "BellRibbons$Watcher"
  | 9 => .object "BellRibbons$Debts"
  | 10 => .object "BellRibbons$Rush"
  | _ => .boolean
abbrev wsX100 : List Cond := u_ws RX10 TX10 12
theorem nmX10 : ∀ a, a < 12 → ∀ b, b < 12 → a ≠ b → (TX10 a).2.1 ≠ (TX10 b).2.1 := by decide +kernel
theorem tyX10_ok : ∀ k, k < 12 → parseFieldDescriptor (TX10 k).2.2.1 = some (tyX10 k) := by decide +kernel
abbrev cX10_init : ByteArray := prog_1_method_1_code
def yX10_init : MethodName := ⟨RX10, "<init>", "()V"⟩
abbrev cX10_rod : ByteArray := prog_1_method_2_code
def yX10_rod : MethodName := ⟨RX10, "rod", "(II)I"⟩
abbrev cX10_stiff : ByteArray := prog_1_method_3_code
def yX10_stiff : MethodName := ⟨RX10, "stiff", "(II)Z"⟩
abbrev cX10_seen : ByteArray := prog_1_method_4_code
def yX10_seen : MethodName := ⟨RX10, "seen", "(IZ)Z"⟩
abbrev cX10_wet : ByteArray := prog_1_method_5_code
def yX10_wet : MethodName := ⟨RX10, "wet", "(IZ)Z"⟩
abbrev cX10_white : ByteArray := prog_1_method_6_code
def yX10_white : MethodName := ⟨RX10, "white", "(IIII)I"⟩
abbrev cX10_red : ByteArray := prog_1_method_7_code
def yX10_red : MethodName := ⟨RX10, "red", "(IIIII)I"⟩
abbrev cX10_wind : ByteArray := prog_1_method_8_code
def yX10_wind : MethodName := ⟨RX10, "wind", "(I)Z"⟩
abbrev cX10_feed : ByteArray := prog_1_method_9_code
def yX10_feed : MethodName := ⟨RX10, "feed", "(IIIII)I"⟩
abbrev cX10_law : ByteArray := prog_1_method_10_code
def yX10_law : MethodName := ⟨RX10, "law", "(I)I"⟩
abbrev cX10_rodIs : ByteArray := prog_1_method_11_code
def yX10_rodIs : MethodName := ⟨RX10, "rodIs", "(II)I"⟩
abbrev cX10_ribbon : ByteArray := prog_1_method_12_code
def yX10_ribbon : MethodName := ⟨RX10, "ribbon", "(II)I"⟩
abbrev cX10_balance : ByteArray := prog_1_method_13_code
def yX10_balance : MethodName := ⟨RX10, "balance", "(I)I"⟩
abbrev cX10_move : ByteArray := prog_1_method_14_code
def yX10_move : MethodName := ⟨RX10, "move", "(III)Z"⟩
abbrev cX10_fall : ByteArray := prog_1_method_15_code
def yX10_fall : MethodName := ⟨RX10, "fall", "(I)Z"⟩
abbrev cX10_pay : ByteArray := prog_1_method_16_code
def yX10_pay : MethodName := ⟨RX10, "pay", "(IIII)I"⟩
abbrev cX10_level : ByteArray := prog_1_method_17_code
def yX10_level : MethodName := ⟨RX10, "level", "(II)I"⟩
abbrev cX10_falseBy : ByteArray := prog_1_method_18_code
def yX10_falseBy : MethodName := ⟨RX10, "falseBy", "(I)I"⟩
abbrev cX10_suspects : ByteArray := prog_1_method_19_code
def yX10_suspects : MethodName := ⟨RX10, "suspects", "()J"⟩
abbrev cX10_gust : ByteArray := prog_1_method_20_code
def yX10_gust : MethodName := ⟨RX10, "gust", "(II)I"⟩
abbrev cX10_fraud : ByteArray := prog_1_method_21_code
def yX10_fraud : MethodName := ⟨RX10, "fraud", "(IIII)I"⟩
abbrev cX10_owes : ByteArray := prog_1_method_22_code
def yX10_owes : MethodName := ⟨RX10, "owes", "(II)I"⟩
abbrev cX10_ring : ByteArray := prog_1_method_23_code
def yX10_ring : MethodName := ⟨RX10, "ring", "(I)I"⟩
abbrev cX10_clear : ByteArray := prog_1_method_24_code
def yX10_clear : MethodName := ⟨RX10, "clear", "()I"⟩
abbrev cX10_run : ByteArray := prog_1_method_25_code
def yX10_run : MethodName := ⟨RX10, "run", "(III)I"⟩
abbrev cX10_order : ByteArray := prog_1_method_26_code
def yX10_order : MethodName := ⟨RX10, "order", "(III)I"⟩
abbrev cX10_seed : ByteArray := prog_1_method_27_code
def yX10_seed : MethodName := ⟨RX10, "seed", "(I)Z"⟩
abbrev cX10_draw : ByteArray := prog_1_method_28_code
def yX10_draw : MethodName := ⟨RX10, "draw", "(I)I"⟩
abbrev cX10_keep : ByteArray := prog_1_method_29_code
def yX10_keep : MethodName := ⟨RX10, "keep", "()I"⟩
abbrev cX10_undo : ByteArray := prog_1_method_30_code
def yX10_undo : MethodName := ⟨RX10, "undo", "()Z"⟩
abbrev cX10_check : ByteArray := prog_1_method_31_code
def yX10_check : MethodName := ⟨RX10, "check", "(I)I"⟩
abbrev cX10_count : ByteArray := prog_1_method_32_code
def yX10_count : MethodName := ⟨RX10, "count", "(I)I"⟩
abbrev cX10_mayHang : ByteArray := prog_1_method_33_code
def yX10_mayHang : MethodName := ⟨RX10, "mayHang", "(IIII)Z"⟩
abbrev cX10_within : ByteArray := prog_1_method_34_code
def yX10_within : MethodName := ⟨RX10, "within", "(III)Z"⟩
abbrev cX10_reaches : ByteArray := prog_1_method_35_code
def yX10_reaches : MethodName := ⟨RX10, "reaches", "(I)Z"⟩
abbrev cX10_isPerson : ByteArray := prog_1_method_36_code
def yX10_isPerson : MethodName := ⟨RX10, "isPerson", "(I)Z"⟩
abbrev cX10_areTwo : ByteArray := prog_1_method_37_code
def yX10_areTwo : MethodName := ⟨RX10, "areTwo", "(II)Z"⟩
abbrev cX10_leanOf : ByteArray := prog_1_method_38_code
def yX10_leanOf : MethodName := ⟨RX10, "leanOf", "(II)I"⟩
def RX11 : String := "BellRibbonsModel"
def TX11 : u_T := fun k => match k with
  | 0 => ("BellRibbonsModel", "tape", "[B", true)
  | 1 => ("BellRibbonsModel", "taped", "I", false)
  | 2 => ("BellRibbonsModel", "rods", "I", false)
  | 3 => ("BellRibbonsModel", "ribbons", "I", false)
  | 4 => ("BellRibbonsModel", "windNow", "I", false)
  | 5 => ("BellRibbonsModel", "luck", "I", false)
  | 6 => ("BellRibbonsModel", "rodOn", "[I", true)
  | 7 => ("BellRibbonsModel", "rodArm", "[I", true)
  | 8 => ("BellRibbonsModel", "stiffOf", "[I", true)
  | 9 => ("BellRibbonsModel", "isSeen", "[Z", true)
  | 10 => ("BellRibbonsModel", "isWet", "[Z", true)
  | 11 => ("BellRibbonsModel", "ribbonRod", "[I", true)
  | 12 => ("BellRibbonsModel", "ribbonArm", "[I", true)
  | 13 => ("BellRibbonsModel", "lengthOf", "[I", true)
  | 14 => ("BellRibbonsModel", "colourOf", "[I", true)
  | 15 => ("BellRibbonsModel", "ownerOf", "[I", true)
  | 16 => ("BellRibbonsModel", "owedTo", "[I", true)
  | 17 => ("BellRibbonsModel", "hangs", "[Z", true)
  | 18 => ("BellRibbonsModel", "clauseMany", "I", false)
  | 19 => ("BellRibbonsModel", "clauseLetter", "[I", true)
  | 20 => ("BellRibbonsModel", "sumFrom", "[I", true)
  | 21 => ("BellRibbonsModel", "codeFrom", "[I", true)
  | 22 => ("BellRibbonsModel", "codeTo", "[I", true)
  | 23 => ("BellRibbonsModel", "code", "[I", true)
  | 24 => ("BellRibbonsModel", "codeArg", "[I", true)
  | 25 => ("BellRibbonsModel", "newLetter", "[I", true)
  | 26 => ("BellRibbonsModel", "newSum", "[I", true)
  | 27 => ("BellRibbonsModel", "newFrom", "[I", true)
  | 28 => ("BellRibbonsModel", "newTo", "[I", true)
  | 29 => ("BellRibbonsModel", "newCode", "[I", true)
  | 30 => ("BellRibbonsModel", "newArg", "[I", true)
  | 31 => ("BellRibbonsModel", "place", "I", false)
  | 32 => ("BellRibbonsModel", "end", "I", false)
  | 33 => ("BellRibbonsModel", "bad", "I", false)
  | 34 => ("BellRibbonsModel", "clauses", "I", false)
  | 35 => ("BellRibbonsModel", "codes", "I", false)
  | 36 => ("BellRibbonsModel", "open", "I", false)
  | 37 => ("BellRibbonsModel", "stacked", "I", false)
  | 38 => ("BellRibbonsModel", "isOver", "Z", false)
  | 39 => ("BellRibbonsModel", "isBehind", "Z", false)
  | 40 => ("BellRibbonsModel", "stack", "[I", true)
  | 41 => ("BellRibbonsModel", "atRibbon", "I", false)
  | 42 => ("BellRibbonsModel", "worths", "[I", true)
  | 43 => ("BellRibbonsModel", "isRefused", "[Z", true)
  | 44 => ("BellRibbonsModel", "loadOf", "[I", true)
  | 45 => ("BellRibbonsModel", "momentOf", "[I", true)
  | 46 => ("BellRibbonsModel", "leanOf", "[I", true)
  | 47 => ("BellRibbonsModel", "leanNow", "[I", true)
  | 48 => ("BellRibbonsModel", "someRibbon", "[I", true)
  | 49 => ("BellRibbonsModel", "someRod", "[I", true)
  | 50 => ("BellRibbonsModel", "someArm", "[I", true)
  | 51 => ("BellRibbonsModel", "row", "[I", true)
  | 52 => ("BellRibbonsModel", "bestRow", "[I", true)
  | 53 => ("BellRibbonsModel", "wasRod", "[I", true)
  | 54 => ("BellRibbonsModel", "wasArm", "[I", true)
  | 55 => ("BellRibbonsModel", "falseRibbon", "[I", true)
  | 56 => ("BellRibbonsModel", "falseLength", "[I", true)
  | 57 => ("BellRibbonsModel", "falsePicture", "[J", true)
  | 58 => ("BellRibbonsModel", "gusts", "[I", true)
  | 59 => ("BellRibbonsModel", "falseMany", "I", false)
  | 60 => ("BellRibbonsModel", "pictureOn", "[J", true)
  | 61 => ("BellRibbonsModel", "debt", "[I", true)
  | 62 => ("BellRibbonsModel", "path", "[I", true)
  | 63 => ("BellRibbonsModel", "bestPath", "[I", true)
  | 64 => ("BellRibbonsModel", "bestMany", "I", false)
  | 65 => ("BellRibbonsModel", "bestCut", "I", false)
  | 66 => ("BellRibbonsModel", "hungThen", "[Z", true)
  | 67 => ("BellRibbonsModel", "gets", "[I", true)
  | 68 => ("BellRibbonsModel", "isKept", "Z", false)
  | 69 => ("BellRibbonsModel", "keptRods", "I", false)
  | 70 => ("BellRibbonsModel", "keptRibbons", "I", false)
  | 71 => ("BellRibbonsModel", "keptWind", "I", false)
  | 72 => ("BellRibbonsModel", "keptLuck", "I", false)
  | 73 => ("BellRibbonsModel", "keptStiff", "[I", true)
  | 74 => ("BellRibbonsModel", "keptOn", "[I", true)
  | 75 => ("BellRibbonsModel", "keptArm", "[I", true)
  | 76 => ("BellRibbonsModel", "keptSeen", "[Z", true)
  | 77 => ("BellRibbonsModel", "keptWet", "[Z", true)
  | 78 => ("BellRibbonsModel", "keptRod", "[I", true)
  | 79 => ("BellRibbonsModel", "keptPlace", "[I", true)
  | 80 => ("BellRibbonsModel", "keptLength", "[I", true)
  | 81 => ("BellRibbonsModel", "keptColour", "[I", true)
  | 82 => ("BellRibbonsModel", "keptOwner", "[I", true)
  | 83 => ("BellRibbonsModel", "keptTo", "[I", true)
  | _ => ("BellRibbonsModel", "keptHangs", "[Z", true)
def tyX11 : Nat → FieldType := fun k => match k with
  | 0 => .array .byte
  | 1 => .int
  | 2 => .int
  | 3 => .int
  | 4 => .int
  | 5 => .int
  | 6 => .array .int
  | 7 => .array .int
  | 8 => .array .int
  | 9 => .array .boolean
  | 10 => .array .boolean
  | 11 => .array .int
  | 12 => .array .int
  | 13 => .array .int
  | 14 => .array .int
  | 15 => .array .int
  | 16 => .array .int
  | 17 => .array .boolean
  | 18 => .int
  | 19 => .array .int
  | 20 => .array .int
  | 21 => .array .int
  | 22 => .array .int
  | 23 => .array .int
  | 24 => .array .int
  | 25 => .array .int
  | 26 => .array .int
  | 27 => .array .int
  | 28 => .array .int
  | 29 => .array .int
  | 30 => .array .int
  | 31 => .int
  | 32 => .int
  | 33 => .int
  | 34 => .int
  | 35 => .int
  | 36 => .int
  | 37 => .int
  | 38 => .boolean
  | 39 => .boolean
  | 40 => .array .int
  | 41 => .int
  | 42 => .array .int
  | 43 => .array .boolean
  | 44 => .array .int
  | 45 => .array .int
  | 46 => .array .int
  | 47 => .array .int
  | 48 => .array .int
  | 49 => .array .int
  | 50 => .array .int
  | 51 => .array .int
  | 52 => .array .int
  | 53 => .array .int
  | 54 => .array .int
  | 55 => .array .int
  | 56 => .array .int
  | 57 => .array .long
  | 58 => .array .int
  | 59 => .int
  | 60 => .array .long
  | 61 => .array .int
  | 62 => .array .int
  | 63 => .array .int
  | 64 => .int
  | 65 => .int
  | 66 => .array .boolean
  | 67 => .array .int
  | 68 => .boolean
  | 69 => .int
  | 70 => .int
  | 71 => .int
  | 72 => .int
  | 73 => .array .int
  | 74 => .array .int
  | 75 => .array .int
  | 76 => .array .boolean
  | 77 => .array .boolean
  | 78 => .array .int
  | 79 => .array .int
  | 80 => .array .int
  | 81 => .array .int
  | 82 => .array .int
  | 83 => .array .int
  | _ => .array .boolean
abbrev wsX110 : List Cond := u_ws RX11 TX11 85
theorem nmX11 : ∀ a, a < 85 → ∀ b, b < 85 → a ≠ b → (TX11 a).2.1 ≠ (TX11 b).2.1 := by decide +kernel
theorem tyX11_ok : ∀ k, k < 85 → parseFieldDescriptor (TX11 k).2.2.1 = some (tyX11 k) := by decide +kernel
abbrev cX11_init : ByteArray := prog_13_method_1_code
def yX11_init : MethodName := ⟨RX11, "<init>", "()V"⟩
abbrev cX11_lies : ByteArray := prog_13_method_2_code
def yX11_lies : MethodName := ⟨RX11, "lies", "(JJJ)Z"⟩
abbrev cX11_has : ByteArray := prog_13_method_3_code
def yX11_has : MethodName := ⟨RX11, "has", "(II)Z"⟩
abbrev cX11_isRod : ByteArray := prog_13_method_4_code
def yX11_isRod : MethodName := ⟨RX11, "isRod", "(I)Z"⟩
abbrev cX11_isArm : ByteArray := prog_13_method_5_code
def yX11_isArm : MethodName := ⟨RX11, "isArm", "(I)Z"⟩
abbrev cX11_isPerson : ByteArray := prog_13_method_6_code
def yX11_isPerson : MethodName := ⟨RX11, "isPerson", "(I)Z"⟩
abbrev cX11_isRibbon : ByteArray := prog_13_method_7_code
def yX11_isRibbon : MethodName := ⟨RX11, "isRibbon", "(I)Z"⟩
abbrev cX11_rod : ByteArray := prog_13_method_8_code
def yX11_rod : MethodName := ⟨RX11, "rod", "(II)I"⟩
abbrev cX11_stiff : ByteArray := prog_13_method_9_code
def yX11_stiff : MethodName := ⟨RX11, "stiff", "(II)Z"⟩
abbrev cX11_seen : ByteArray := prog_13_method_10_code
def yX11_seen : MethodName := ⟨RX11, "seen", "(IZ)Z"⟩
abbrev cX11_wet : ByteArray := prog_13_method_11_code
def yX11_wet : MethodName := ⟨RX11, "wet", "(IZ)Z"⟩
abbrev cX11_adds : ByteArray := prog_13_method_12_code
def yX11_adds : MethodName := ⟨RX11, "adds", "(IIIIII)I"⟩
abbrev cX11_white : ByteArray := prog_13_method_13_code
def yX11_white : MethodName := ⟨RX11, "white", "(IIII)I"⟩
abbrev cX11_red : ByteArray := prog_13_method_14_code
def yX11_red : MethodName := ⟨RX11, "red", "(IIIII)I"⟩
abbrev cX11_wind : ByteArray := prog_13_method_15_code
def yX11_wind : MethodName := ⟨RX11, "wind", "(I)Z"⟩
abbrev cX11_push : ByteArray := prog_13_method_16_code
def yX11_push : MethodName := ⟨RX11, "push", "(I)V"⟩
abbrev cX11_feed : ByteArray := prog_13_method_17_code
def yX11_feed : MethodName := ⟨RX11, "feed", "(IIIII)I"⟩
abbrev cX11_byteAt : ByteArray := prog_13_method_18_code
def yX11_byteAt : MethodName := ⟨RX11, "byteAt", "(I)I"⟩
abbrev cX11_here : ByteArray := prog_13_method_19_code
def yX11_here : MethodName := ⟨RX11, "here", "()I"⟩
abbrev cX11_wrongs : ByteArray := prog_13_method_20_code
def yX11_wrongs : MethodName := ⟨RX11, "wrongs", "(II)V"⟩
abbrev cX11_isGood : ByteArray := prog_13_method_21_code
def yX11_isGood : MethodName := ⟨RX11, "isGood", "()Z"⟩
abbrev cX11_emit : ByteArray := prog_13_method_22_code
def yX11_emit : MethodName := ⟨RX11, "emit", "(II)V"⟩
abbrev cX11_top : ByteArray := prog_13_method_23_code
def yX11_top : MethodName := ⟨RX11, "top", "()I"⟩
abbrev cX11_puts : ByteArray := prog_13_method_24_code
def yX11_puts : MethodName := ⟨RX11, "puts", "(I)V"⟩
abbrev cX11_opens : ByteArray := prog_13_method_25_code
def yX11_opens : MethodName := ⟨RX11, "opens", "()V"⟩
abbrev cX11_seesDigit : ByteArray := prog_13_method_26_code
def yX11_seesDigit : MethodName := ⟨RX11, "seesDigit", "()Z"⟩
abbrev cX11_reads : ByteArray := prog_13_method_27_code
def yX11_reads : MethodName := ⟨RX11, "reads", "()I"⟩
abbrev cX11_isTimes : ByteArray := prog_13_method_28_code
def yX11_isTimes : MethodName := ⟨RX11, "isTimes", "(I)Z"⟩
abbrev cX11_isPlus : ByteArray := prog_13_method_29_code
def yX11_isPlus : MethodName := ⟨RX11, "isPlus", "(I)Z"⟩
abbrev cX11_isSign : ByteArray := prog_13_method_30_code
def yX11_isSign : MethodName := ⟨RX11, "isSign", "(I)Z"⟩
abbrev cX11_isValue : ByteArray := prog_13_method_31_code
def yX11_isValue : MethodName := ⟨RX11, "isValue", "(I)Z"⟩
abbrev cX11_sums : ByteArray := prog_13_method_32_code
def yX11_sums : MethodName := ⟨RX11, "sums", "(Z)V"⟩
abbrev cX11_joins : ByteArray := prog_13_method_33_code
def yX11_joins : MethodName := ⟨RX11, "joins", "(Z)V"⟩
abbrev cX11_ends : ByteArray := prog_13_method_34_code
def yX11_ends : MethodName := ⟨RX11, "ends", "()V"⟩
abbrev cX11_factor : ByteArray := prog_13_method_35_code
def yX11_factor : MethodName := ⟨RX11, "factor", "()V"⟩
abbrev cX11_stays : ByteArray := prog_13_method_36_code
def yX11_stays : MethodName := ⟨RX11, "stays", "()Z"⟩
abbrev cX11_value : ByteArray := prog_13_method_37_code
def yX11_value : MethodName := ⟨RX11, "value", "()V"⟩
abbrev cX11_pieceOfC : ByteArray := prog_13_method_38_code
def yX11_pieceOfC : MethodName := ⟨RX11, "pieceOfC", "()V"⟩
abbrev cX11_goesBehind : ByteArray := prog_13_method_39_code
def yX11_goesBehind : MethodName := ⟨RX11, "goesBehind", "()Z"⟩
abbrev cX11_condition : ByteArray := prog_13_method_40_code
def yX11_condition : MethodName := ⟨RX11, "condition", "()V"⟩
abbrev cX11_clause : ByteArray := prog_13_method_41_code
def yX11_clause : MethodName := ⟨RX11, "clause", "()V"⟩
abbrev cX11_law : ByteArray := prog_13_method_42_code
def yX11_law : MethodName := ⟨RX11, "law", "(I)I"⟩
abbrev cX11_valueOf : ByteArray := prog_13_method_43_code
def yX11_valueOf : MethodName := ⟨RX11, "valueOf", "(I)I"⟩
abbrev cX11_worked : ByteArray := prog_13_method_44_code
def yX11_worked : MethodName := ⟨RX11, "worked", "(III)I"⟩
abbrev cX11_does : ByteArray := prog_13_method_45_code
def yX11_does : MethodName := ⟨RX11, "does", "(II)V"⟩
abbrev cX11_works : ByteArray := prog_13_method_46_code
def yX11_works : MethodName := ⟨RX11, "works", "(II)V"⟩
abbrev cX11_tells : ByteArray := prog_13_method_47_code
def yX11_tells : MethodName := ⟨RX11, "tells", "(IIIII)I"⟩
abbrev cX11_heavy : ByteArray := prog_13_method_48_code
def yX11_heavy : MethodName := ⟨RX11, "heavy", "(I)I"⟩
abbrev cX11_pushed : ByteArray := prog_13_method_49_code
def yX11_pushed : MethodName := ⟨RX11, "pushed", "(I)I"⟩
abbrev cX11_laysLeans : ByteArray := prog_13_method_50_code
def yX11_laysLeans : MethodName := ⟨RX11, "laysLeans", "()V"⟩
abbrev cX11_picture : ByteArray := prog_13_method_51_code
def yX11_picture : MethodName := ⟨RX11, "picture", "()J"⟩
abbrev cX11_rodIs : ByteArray := prog_13_method_52_code
def yX11_rodIs : MethodName := ⟨RX11, "rodIs", "(II)I"⟩
abbrev cX11_ribbon : ByteArray := prog_13_method_53_code
def yX11_ribbon : MethodName := ⟨RX11, "ribbon", "(II)I"⟩
abbrev cX11_balance : ByteArray := prog_13_method_54_code
def yX11_balance : MethodName := ⟨RX11, "balance", "(I)I"⟩
abbrev cX11_move : ByteArray := prog_13_method_55_code
def yX11_move : MethodName := ⟨RX11, "move", "(III)Z"⟩
abbrev cX11_fall : ByteArray := prog_13_method_56_code
def yX11_fall : MethodName := ⟨RX11, "fall", "(I)Z"⟩
abbrev cX11_isWhiteOf : ByteArray := prog_13_method_57_code
def yX11_isWhiteOf : MethodName := ⟨RX11, "isWhiteOf", "(II)Z"⟩
abbrev cX11_canKnot : ByteArray := prog_13_method_58_code
def yX11_canKnot : MethodName := ⟨RX11, "canKnot", "(IIIII)Z"⟩
abbrev cX11_knots : ByteArray := prog_13_method_59_code
def yX11_knots : MethodName := ⟨RX11, "knots", "(III)V"⟩
abbrev cX11_othersBy : ByteArray := prog_13_method_60_code
def yX11_othersBy : MethodName := ⟨RX11, "othersBy", "(III)I"⟩
abbrev cX11_pay : ByteArray := prog_13_method_61_code
def yX11_pay : MethodName := ⟨RX11, "pay", "(IIII)I"⟩
abbrev cX11_takesPlaces : ByteArray := prog_13_method_62_code
def yX11_takesPlaces : MethodName := ⟨RX11, "takesPlaces", "(I)Z"⟩
abbrev cX11_hangsBy : ByteArray := prog_13_method_63_code
def yX11_hangsBy : MethodName := ⟨RX11, "hangsBy", "(II)V"⟩
abbrev cX11_size : ByteArray := prog_13_method_64_code
def yX11_size : MethodName := ⟨RX11, "size", "(I)I"⟩
abbrev cX11_sumOfLeans : ByteArray := prog_13_method_65_code
def yX11_sumOfLeans : MethodName := ⟨RX11, "sumOfLeans", "()I"⟩
abbrev cX11_goesOn : ByteArray := prog_13_method_66_code
def yX11_goesOn : MethodName := ⟨RX11, "goesOn", "(I)Z"⟩
abbrev cX11_level : ByteArray := prog_13_method_67_code
def yX11_level : MethodName := ⟨RX11, "level", "(II)I"⟩
abbrev cX11_seenMany : ByteArray := prog_13_method_68_code
def yX11_seenMany : MethodName := ⟨RX11, "seenMany", "()I"⟩
abbrev cX11_toldPicture : ByteArray := prog_13_method_69_code
def yX11_toldPicture : MethodName := ⟨RX11, "toldPicture", "(I)J"⟩
abbrev cX11_canBe : ByteArray := prog_13_method_70_code
def yX11_canBe : MethodName := ⟨RX11, "canBe", "(IIJ)Z"⟩
abbrev cX11_lengthsOf : ByteArray := prog_13_method_71_code
def yX11_lengthsOf : MethodName := ⟨RX11, "lengthsOf", "(IJ)I"⟩
abbrev cX11_falseBy : ByteArray := prog_13_method_72_code
def yX11_falseBy : MethodName := ⟨RX11, "falseBy", "(I)I"⟩
abbrev cX11_suspects : ByteArray := prog_13_method_73_code
def yX11_suspects : MethodName := ⟨RX11, "suspects", "()J"⟩
abbrev cX11_laysFalse : ByteArray := prog_13_method_74_code
def yX11_laysFalse : MethodName := ⟨RX11, "laysFalse", "(J)V"⟩
abbrev cX11_mostAlike : ByteArray := prog_13_method_75_code
def yX11_mostAlike : MethodName := ⟨RX11, "mostAlike", "(I)I"⟩
abbrev cX11_gust : ByteArray := prog_13_method_76_code
def yX11_gust : MethodName := ⟨RX11, "gust", "(II)I"⟩
abbrev cX11_isUnseen : ByteArray := prog_13_method_77_code
def yX11_isUnseen : MethodName := ⟨RX11, "isUnseen", "(I)Z"⟩
abbrev cX11_isFraud : ByteArray := prog_13_method_78_code
def yX11_isFraud : MethodName := ⟨RX11, "isFraud", "(IIII)Z"⟩
abbrev cX11_fraud : ByteArray := prog_13_method_79_code
def yX11_fraud : MethodName := ⟨RX11, "fraud", "(IIII)I"⟩
abbrev cX11_laysDebts : ByteArray := prog_13_method_80_code
def yX11_laysDebts : MethodName := ⟨RX11, "laysDebts", "()V"⟩
abbrev cX11_owes : ByteArray := prog_13_method_81_code
def yX11_owes : MethodName := ⟨RX11, "owes", "(II)I"⟩
abbrev cX11_isOn : ByteArray := prog_13_method_82_code
def yX11_isOn : MethodName := ⟨RX11, "isOn", "(II)Z"⟩
abbrev cX11_looksAt : ByteArray := prog_13_method_83_code
def yX11_looksAt : MethodName := ⟨RX11, "looksAt", "(I)V"⟩
abbrev cX11_findsRing : ByteArray := prog_13_method_84_code
def yX11_findsRing : MethodName := ⟨RX11, "findsRing", "()V"⟩
abbrev cX11_ring : ByteArray := prog_13_method_85_code
def yX11_ring : MethodName := ⟨RX11, "ring", "(I)I"⟩
abbrev cX11_cuts : ByteArray := prog_13_method_86_code
def yX11_cuts : MethodName := ⟨RX11, "cuts", "(III)V"⟩
abbrev cX11_clear : ByteArray := prog_13_method_87_code
def yX11_clear : MethodName := ⟨RX11, "clear", "()I"⟩
abbrev cX11_isTipped : ByteArray := prog_13_method_88_code
def yX11_isTipped : MethodName := ⟨RX11, "isTipped", "(II)Z"⟩
abbrev cX11_whiteOf : ByteArray := prog_13_method_89_code
def yX11_whiteOf : MethodName := ⟨RX11, "whiteOf", "(I)I"⟩
abbrev cX11_run : ByteArray := prog_13_method_90_code
def yX11_run : MethodName := ⟨RX11, "run", "(III)I"⟩
abbrev cX11_getsBy : ByteArray := prog_13_method_91_code
def yX11_getsBy : MethodName := ⟨RX11, "getsBy", "(II)I"⟩
abbrev cX11_sizeOf : ByteArray := prog_13_method_92_code
def yX11_sizeOf : MethodName := ⟨RX11, "sizeOf", "(I)I"⟩
abbrev cX11_order : ByteArray := prog_13_method_93_code
def yX11_order : MethodName := ⟨RX11, "order", "(III)I"⟩
abbrev cX11_seed : ByteArray := prog_13_method_94_code
def yX11_seed : MethodName := ⟨RX11, "seed", "(I)Z"⟩
abbrev cX11_someLeans : ByteArray := prog_13_method_95_code
def yX11_someLeans : MethodName := ⟨RX11, "someLeans", "()Z"⟩
abbrev cX11_draw : ByteArray := prog_13_method_96_code
def yX11_draw : MethodName := ⟨RX11, "draw", "(I)I"⟩
abbrev cX11_hanging : ByteArray := prog_13_method_97_code
def yX11_hanging : MethodName := ⟨RX11, "hanging", "()I"⟩
abbrev cX11_keep : ByteArray := prog_13_method_98_code
def yX11_keep : MethodName := ⟨RX11, "keep", "()I"⟩
abbrev cX11_undo : ByteArray := prog_13_method_99_code
def yX11_undo : MethodName := ⟨RX11, "undo", "()Z"⟩
abbrev cX11_numberAt : ByteArray := prog_13_method_100_code
def yX11_numberAt : MethodName := ⟨RX11, "numberAt", "(I)I"⟩
abbrev cX11_check : ByteArray := prog_13_method_101_code
def yX11_check : MethodName := ⟨RX11, "check", "(I)I"⟩
abbrev cX11_count : ByteArray := prog_13_method_102_code
def yX11_count : MethodName := ⟨RX11, "count", "(I)I"⟩
def RJ6 : String := "java/lang/Integer"
def TJ6 : u_T := fun k => match k with
  | _ => ("", "", "", false)
def tyJ6 : Nat → FieldType := fun k => match k with
  | _ => .int
abbrev wsJ60 : List Cond := u_ws RJ6 TJ6 0
theorem nmJ6 : ∀ a, a < 0 → ∀ b, b < 0 → a ≠ b → (TJ6 a).2.1 ≠ (TJ6 b).2.1 := by decide +kernel
theorem tyJ6_ok : ∀ k, k < 0 → parseFieldDescriptor (TJ6 k).2.2.1 = some (tyJ6 k) := by decide +kernel
abbrev cJ6_bitCount_0f7a4 : ByteArray := prog_14_method_49_code
def yJ6_bitCount_0f7a4 : MethodName := ⟨RJ6, "bitCount", "(I)I"⟩
def RJ9 : String := "java/lang/Math"
def TJ9 : u_T := fun k => match k with
  | _ => ("", "", "", false)
def tyJ9 : Nat → FieldType := fun k => match k with
  | _ => .int
abbrev wsJ90 : List Cond := u_ws RJ9 TJ9 0
theorem nmJ9 : ∀ a, a < 0 → ∀ b, b < 0 → a ≠ b → (TJ9 a).2.1 ≠ (TJ9 b).2.1 := by decide +kernel
theorem tyJ9_ok : ∀ k, k < 0 → parseFieldDescriptor (TJ9 k).2.2.1 = some (tyJ9 k) := by decide +kernel
abbrev cJ9_abs_0f7a4 : ByteArray := prog_15_method_59_code
def yJ9_abs_0f7a4 : MethodName := ⟨RJ9, "abs", "(I)I"⟩
abbrev cJ9_max_7cf53 : ByteArray := prog_15_method_65_code
def yJ9_max_7cf53 : MethodName := ⟨RJ9, "max", "(II)I"⟩
abbrev cJ9_min_7cf53 : ByteArray := prog_15_method_69_code
def yJ9_min_7cf53 : MethodName := ⟨RJ9, "min", "(II)I"⟩
def RJ10 : String := "java/lang/System"
def TJ10 : u_T := fun k => match k with
  | _ => ("", "", "", false)
def tyJ10 : Nat → FieldType := fun k => match k with
  | _ => .int
abbrev wsJ100 : List Cond := u_ws RJ10 TJ10 0
theorem nmJ10 : ∀ a, a < 0 → ∀ b, b < 0 → a ≠ b → (TJ10 a).2.1 ≠ (TJ10 b).2.1 := by decide +kernel
theorem tyJ10_ok : ∀ k, k < 0 → parseFieldDescriptor (TJ10 k).2.2.1 = some (tyJ10 k) := by decide +kernel
def RL : String := "BellRibbonsLaw"
abbrev cL_law : ByteArray := code
def yL_law : MethodName := ⟨RL, "law", "([I)Z"⟩
end
section
/-- a method: the number of its own kind, name, code, locals, answer, kind of answer (0 none, 1 int, 2 long, 3 boolean), values it takes, 0 static 1 virtual 2 init, cells and slots that it may make -/
abbrev MI : Type := Nat × MethodName × ByteArray × Nat × Option FieldType × Nat × Nat × Nat × Nat × Nat
def MI.yn (M : MI) : MethodName := M.2.1
def MI.cd (M : MI) : ByteArray := M.2.2.1
def MI.ml (M : MI) : Nat := M.2.2.2.1
def MI.rt (M : MI) : Option FieldType := M.2.2.2.2.1
def inf (M : MI) : Nat × Nat × Nat × Nat × Nat × Nat := (M.1, M.2.2.2.2.2)
def mX0_init : MI := (0, yX0_init, cX0_init, 2, none, 0, 2, 2, 0, 0)
theorem iX0_init : inf mX0_init = (0, 0, 2, 2, 0, 0) := rfl
def mX0_findBest : MI := (0, yX0_findBest, cX0_findBest, 2, some .boolean, 3, 1, 1, 0, 0)
theorem iX0_findBest : inf mX0_findBest = (0, 3, 1, 1, 0, 0) := rfl
def mX0_addUp : MI := (0, yX0_addUp, cX0_addUp, 4, none, 0, 1, 1, 0, 0)
theorem iX0_addUp : inf mX0_addUp = (0, 0, 1, 1, 0, 0) := rfl
def mX0_goOn : MI := (0, yX0_goOn, cX0_goOn, 6, none, 0, 4, 1, 0, 0)
theorem iX0_goOn : inf mX0_goOn = (0, 0, 4, 1, 0, 0) := rfl
def mX0_compare : MI := (0, yX0_compare, cX0_compare, 4, none, 0, 3, 1, 0, 0)
theorem iX0_compare : inf mX0_compare = (0, 0, 3, 1, 0, 0) := rfl
def mX0_cutAll : MI := (0, yX0_cutAll, cX0_cutAll, 3, some .int, 1, 1, 1, 0, 0)
theorem iX0_cutAll : inf mX0_cutAll = (0, 1, 1, 1, 0, 0) := rfl
def mX0_cutRing : MI := (0, yX0_cutRing, cX0_cutRing, 3, none, 0, 1, 1, 0, 0)
theorem iX0_cutRing : inf mX0_cutRing = (0, 0, 1, 1, 0, 0) := rfl
def mX1_init : MI := (1, yX1_init, cX1_init, 1, none, 0, 1, 2, 0, 0)
theorem iX1_init : inf mX1_init = (1, 0, 1, 2, 0, 0) := rfl
def mX1_look : MI := (1, yX1_look, cX1_look, 5, none, 0, 5, 1, 0, 0)
theorem iX1_look : inf mX1_look = (1, 0, 5, 1, 0, 0) := rfl
def mX1_lookAt : MI := (1, yX1_lookAt, cX1_lookAt, 7, none, 0, 7, 1, 0, 0)
theorem iX1_lookAt : inf mX1_lookAt = (1, 0, 7, 1, 0, 0) := rfl
def mX1_factOf : MI := (1, yX1_factOf, cX1_factOf, 1, some .int, 1, 1, 0, 0, 0)
theorem iX1_factOf : inf mX1_factOf = (1, 1, 1, 0, 0, 0) := rfl
def mX1_ask : MI := (1, yX1_ask, cX1_ask, 5, some .int, 1, 2, 1, 0, 0)
theorem iX1_ask : inf mX1_ask = (1, 1, 2, 1, 0, 0) := rfl
def mX1_reckon : MI := (1, yX1_reckon, cX1_reckon, 4, none, 0, 2, 1, 0, 0)
theorem iX1_reckon : inf mX1_reckon = (1, 0, 2, 1, 0, 0) := rfl
def mX1_put : MI := (1, yX1_put, cX1_put, 2, none, 0, 2, 1, 0, 0)
theorem iX1_put : inf mX1_put = (1, 0, 2, 1, 0, 0) := rfl
def mX1_combine : MI := (1, yX1_combine, cX1_combine, 4, none, 0, 2, 1, 0, 0)
theorem iX1_combine : inf mX1_combine = (1, 0, 2, 1, 0, 0) := rfl
def mX1_compare : MI := (1, yX1_compare, cX1_compare, 4, none, 0, 2, 1, 0, 0)
theorem iX1_compare : inf mX1_compare = (1, 0, 2, 1, 0, 0) := rfl
def mX1_forget : MI := (1, yX1_forget, cX1_forget, 1, none, 0, 1, 1, 0, 0)
theorem iX1_forget : inf mX1_forget = (1, 0, 1, 1, 0, 0) := rfl
def mX1_startClause : MI := (1, yX1_startClause, cX1_startClause, 2, none, 0, 2, 1, 0, 0)
theorem iX1_startClause : inf mX1_startClause = (1, 0, 2, 1, 0, 0) := rfl
def mX1_startCondition : MI := (1, yX1_startCondition, cX1_startCondition, 1, none, 0, 1, 1, 0, 0)
theorem iX1_startCondition : inf mX1_startCondition = (1, 0, 1, 1, 0, 0) := rfl
def mX1_emit : MI := (1, yX1_emit, cX1_emit, 3, none, 0, 3, 1, 0, 0)
theorem iX1_emit : inf mX1_emit = (1, 0, 3, 1, 0, 0) := rfl
def mX1_emitJump : MI := (1, yX1_emitJump, cX1_emitJump, 3, some .int, 1, 3, 1, 0, 0)
theorem iX1_emitJump : inf mX1_emitJump = (1, 1, 3, 1, 0, 0) := rfl
def mX1_aimHere : MI := (1, yX1_aimHere, cX1_aimHere, 5, none, 0, 2, 1, 0, 0)
theorem iX1_aimHere : inf mX1_aimHere = (1, 0, 2, 1, 0, 0) := rfl
def mX1_copyFrom : MI := (1, yX1_copyFrom, cX1_copyFrom, 2, none, 0, 2, 1, 0, 0)
theorem iX1_copyFrom : inf mX1_copyFrom = (1, 0, 2, 1, 0, 0) := rfl
def mX2_init : MI := (2, yX2_init, cX2_init, 2, none, 0, 2, 2, 0, 0)
theorem iX2_init : inf mX2_init = (2, 0, 2, 2, 0, 0) := rfl
def mX2_read : MI := (2, yX2_read, cX2_read, 3, some .int, 1, 2, 1, 0, 0)
theorem iX2_read : inf mX2_read = (2, 1, 2, 1, 0, 0) := rfl
def mX2_next : MI := (2, yX2_next, cX2_next, 1, some .int, 1, 1, 1, 0, 0)
theorem iX2_next : inf mX2_next = (2, 1, 1, 1, 0, 0) := rfl
def mX2_fail : MI := (2, yX2_fail, cX2_fail, 2, some .boolean, 3, 2, 1, 0, 0)
theorem iX2_fail : inf mX2_fail = (2, 3, 2, 1, 0, 0) := rfl
def mX2_take : MI := (2, yX2_take, cX2_take, 2, some .boolean, 3, 2, 1, 0, 0)
theorem iX2_take : inf mX2_take = (2, 3, 2, 1, 0, 0) := rfl
def mX2_open : MI := (2, yX2_open, cX2_open, 3, some .boolean, 3, 3, 1, 0, 0)
theorem iX2_open : inf mX2_open = (2, 3, 3, 1, 0, 0) := rfl
def mX2_readClause : MI := (2, yX2_readClause, cX2_readClause, 2, some .boolean, 3, 1, 1, 0, 0)
theorem iX2_readClause : inf mX2_readClause = (2, 3, 1, 1, 0, 0) := rfl
def mX2_readCondition : MI := (2, yX2_readCondition, cX2_readCondition, 3, some .boolean, 3, 2, 1, 0, 0)
theorem iX2_readCondition : inf mX2_readCondition = (2, 3, 2, 1, 0, 0) := rfl
def mX2_readPart : MI := (2, yX2_readPart, cX2_readPart, 3, some .boolean, 3, 2, 1, 0, 0)
theorem iX2_readPart : inf mX2_readPart = (2, 3, 2, 1, 0, 0) := rfl
def mX2_readPiece : MI := (2, yX2_readPiece, cX2_readPiece, 4, some .boolean, 3, 2, 1, 0, 0)
theorem iX2_readPiece : inf mX2_readPiece = (2, 3, 2, 1, 0, 0) := rfl
def mX2_readSum : MI := (2, yX2_readSum, cX2_readSum, 3, some .boolean, 3, 2, 1, 0, 0)
theorem iX2_readSum : inf mX2_readSum = (2, 3, 2, 1, 0, 0) := rfl
def mX2_readTerm : MI := (2, yX2_readTerm, cX2_readTerm, 3, some .boolean, 3, 2, 1, 0, 0)
theorem iX2_readTerm : inf mX2_readTerm = (2, 3, 2, 1, 0, 0) := rfl
def mX2_readFactor : MI := (2, yX2_readFactor, cX2_readFactor, 4, some .boolean, 3, 2, 1, 0, 0)
theorem iX2_readFactor : inf mX2_readFactor = (2, 3, 2, 1, 0, 0) := rfl
def mX2_readNumber : MI := (2, yX2_readNumber, cX2_readNumber, 3, some .boolean, 3, 1, 1, 0, 0)
theorem iX2_readNumber : inf mX2_readNumber = (2, 3, 1, 1, 0, 0) := rfl
def mX2_isDigit : MI := (2, yX2_isDigit, cX2_isDigit, 1, some .boolean, 3, 1, 0, 0, 0)
theorem iX2_isDigit : inf mX2_isDigit = (2, 3, 1, 0, 0, 0) := rfl
def mX3_init : MI := (3, yX3_init, cX3_init, 1, none, 0, 1, 2, 0, 0)
theorem iX3_init : inf mX3_init = (3, 0, 1, 2, 0, 0) := rfl
def mX3_addRod : MI := (3, yX3_addRod, cX3_addRod, 3, some .int, 1, 3, 1, 0, 0)
theorem iX3_addRod : inf mX3_addRod = (3, 1, 3, 1, 0, 0) := rfl
def mX3_addRibbon : MI := (3, yX3_addRibbon, cX3_addRibbon, 7, some .int, 1, 7, 1, 0, 0)
theorem iX3_addRibbon : inf mX3_addRibbon = (3, 1, 7, 1, 0, 0) := rfl
def mX3_hasRod : MI := (3, yX3_hasRod, cX3_hasRod, 2, some .boolean, 3, 2, 1, 0, 0)
theorem iX3_hasRod : inf mX3_hasRod = (3, 3, 2, 1, 0, 0) := rfl
def mX3_hasRibbon : MI := (3, yX3_hasRibbon, cX3_hasRibbon, 2, some .boolean, 3, 2, 1, 0, 0)
theorem iX3_hasRibbon : inf mX3_hasRibbon = (3, 3, 2, 1, 0, 0) := rfl
def mX3_isHanging : MI := (3, yX3_isHanging, cX3_isHanging, 2, some .boolean, 3, 2, 1, 0, 0)
theorem iX3_isHanging : inf mX3_isHanging = (3, 3, 2, 1, 0, 0) := rfl
def mX3_isWhiteOf : MI := (3, yX3_isWhiteOf, cX3_isWhiteOf, 3, some .boolean, 3, 3, 1, 0, 0)
theorem iX3_isWhiteOf : inf mX3_isWhiteOf = (3, 3, 3, 1, 0, 0) := rfl
def mX3_isDebt : MI := (3, yX3_isDebt, cX3_isDebt, 4, some .boolean, 3, 4, 1, 0, 0)
theorem iX3_isDebt : inf mX3_isDebt = (3, 3, 4, 1, 0, 0) := rfl
def mX3_hanging : MI := (3, yX3_hanging, cX3_hanging, 3, some .int, 1, 1, 1, 0, 0)
theorem iX3_hanging : inf mX3_hanging = (3, 1, 1, 1, 0, 0) := rfl
def mX3_seenRods : MI := (3, yX3_seenRods, cX3_seenRods, 3, some .int, 1, 1, 1, 0, 0)
theorem iX3_seenRods : inf mX3_seenRods = (3, 1, 1, 1, 0, 0) := rfl
def mX3_balanceOf : MI := (3, yX3_balanceOf, cX3_balanceOf, 4, some .int, 1, 2, 1, 0, 0)
theorem iX3_balanceOf : inf mX3_balanceOf = (3, 1, 2, 1, 0, 0) := rfl
def mX3_debt : MI := (3, yX3_debt, cX3_debt, 5, some .int, 1, 3, 1, 0, 0)
theorem iX3_debt : inf mX3_debt = (3, 1, 3, 1, 0, 0) := rfl
def mX3_cutDebt : MI := (3, yX3_cutDebt, cX3_cutDebt, 7, none, 0, 4, 1, 0, 0)
theorem iX3_cutDebt : inf mX3_cutDebt = (3, 0, 4, 1, 0, 0) := rfl
def mX3_copyFrom : MI := (3, yX3_copyFrom, cX3_copyFrom, 2, none, 0, 2, 1, 0, 0)
theorem iX3_copyFrom : inf mX3_copyFrom = (3, 0, 2, 1, 0, 0) := rfl
def mX4_init : MI := (4, yX4_init, cX4_init, 4, none, 0, 4, 2, 0, 0)
theorem iX4_init : inf mX4_init = (4, 0, 4, 2, 0, 0) := rfl
def mX4_read : MI := (4, yX4_read, cX4_read, 4, some .boolean, 3, 3, 1, 0, 0)
theorem iX4_read : inf mX4_read = (4, 3, 3, 1, 0, 0) := rfl
def mX4_isTwice : MI := (4, yX4_isTwice, cX4_isTwice, 3, some .boolean, 3, 2, 1, 0, 0)
theorem iX4_isTwice : inf mX4_isTwice = (4, 3, 2, 1, 0, 0) := rfl
def mX4_search : MI := (4, yX4_search, cX4_search, 3, none, 0, 1, 1, 0, 0)
theorem iX4_search : inf mX4_search = (4, 0, 1, 1, 0, 0) := rfl
def mX4_weighAtPlaces : MI := (4, yX4_weighAtPlaces, cX4_weighAtPlaces, 4, none, 0, 2, 1, 0, 0)
theorem iX4_weighAtPlaces : inf mX4_weighAtPlaces = (4, 0, 2, 1, 0, 0) := rfl
def mX4_hangFrom : MI := (4, yX4_hangFrom, cX4_hangFrom, 4, none, 0, 3, 1, 0, 0)
theorem iX4_hangFrom : inf mX4_hangFrom = (4, 0, 3, 1, 0, 0) := rfl
def mX4_compare : MI := (4, yX4_compare, cX4_compare, 2, none, 0, 1, 1, 0, 0)
theorem iX4_compare : inf mX4_compare = (4, 0, 1, 1, 0, 0) := rfl
def mX4_hang : MI := (4, yX4_hang, cX4_hang, 4, none, 0, 1, 1, 0, 0)
theorem iX4_hang : inf mX4_hang = (4, 0, 1, 1, 0, 0) := rfl
def mX5_init : MI := (5, yX5_init, cX5_init, 4, none, 0, 3, 2, 0, 0)
theorem iX5_init : inf mX5_init = (5, 0, 3, 2, 0, 0) := rfl
def mX5_findPayment : MI := (5, yX5_findPayment, cX5_findPayment, 5, some .boolean, 3, 4, 1, 0, 0)
theorem iX5_findPayment : inf mX5_findPayment = (5, 3, 4, 1, 0, 0) := rfl
def mX5_tryKnots : MI := (5, yX5_tryKnots, cX5_tryKnots, 5, none, 0, 3, 1, 0, 0)
theorem iX5_tryKnots : inf mX5_tryKnots = (5, 0, 3, 1, 0, 0) := rfl
def mX5_carryOut : MI := (5, yX5_carryOut, cX5_carryOut, 2, none, 0, 2, 1, 0, 0)
theorem iX5_carryOut : inf mX5_carryOut = (5, 0, 2, 1, 0, 0) := rfl
def mX5_findFraud : MI := (5, yX5_findFraud, cX5_findFraud, 6, some .int, 1, 5, 1, 0, 0)
theorem iX5_findFraud : inf mX5_findFraud = (5, 1, 5, 1, 0, 0) := rfl
def mX5_mostPayable : MI := (5, yX5_mostPayable, cX5_mostPayable, 4, some .int, 1, 1, 1, 0, 0)
theorem iX5_mostPayable : inf mX5_mostPayable = (5, 1, 1, 1, 0, 0) := rfl
def mX5_findUnseen : MI := (5, yX5_findUnseen, cX5_findUnseen, 5, some .boolean, 3, 3, 1, 0, 0)
theorem iX5_findUnseen : inf mX5_findUnseen = (5, 3, 3, 1, 0, 0) := rfl
def mX5_isUnseen : MI := (5, yX5_isUnseen, cX5_isUnseen, 6, some .boolean, 3, 4, 1, 0, 0)
theorem iX5_isUnseen : inf mX5_isUnseen = (5, 3, 4, 1, 0, 0) := rfl
def mX5_canCut : MI := (5, yX5_canCut, cX5_canCut, 3, some .boolean, 3, 3, 1, 0, 0)
theorem iX5_canCut : inf mX5_canCut = (5, 3, 3, 1, 0, 0) := rfl
def mX5_canKnot : MI := (5, yX5_canKnot, cX5_canKnot, 3, some .boolean, 3, 3, 1, 0, 0)
theorem iX5_canKnot : inf mX5_canKnot = (5, 3, 3, 1, 0, 0) := rfl
def mX5_startDay : MI := (5, yX5_startDay, cX5_startDay, 3, none, 0, 3, 1, 0, 0)
theorem iX5_startDay : inf mX5_startDay = (5, 0, 3, 1, 0, 0) := rfl
def mX5_weighChanges : MI := (5, yX5_weighChanges, cX5_weighChanges, 5, none, 0, 3, 1, 0, 0)
theorem iX5_weighChanges : inf mX5_weighChanges = (5, 0, 3, 1, 0, 0) := rfl
def mX5_shift : MI := (5, yX5_shift, cX5_shift, 5, none, 0, 4, 1, 0, 0)
theorem iX5_shift : inf mX5_shift = (5, 0, 4, 1, 0, 0) := rfl
def mX6_init : MI := (6, yX6_init, cX6_init, 3, none, 0, 3, 2, 0, 0)
theorem iX6_init : inf mX6_init = (6, 0, 3, 2, 0, 0) := rfl
def mX6_readPeople : MI := (6, yX6_readPeople, cX6_readPeople, 6, some .boolean, 3, 3, 1, 0, 0)
theorem iX6_readPeople : inf mX6_readPeople = (6, 3, 3, 1, 0, 0) := rfl
def mX6_weighPeople : MI := (6, yX6_weighPeople, cX6_weighPeople, 3, none, 0, 1, 1, 0, 0)
theorem iX6_weighPeople : inf mX6_weighPeople = (6, 0, 1, 1, 0, 0) := rfl
def mX6_isTipped : MI := (6, yX6_isTipped, cX6_isTipped, 5, some .boolean, 3, 3, 1, 0, 0)
theorem iX6_isTipped : inf mX6_isTipped = (6, 3, 3, 1, 0, 0) := rfl
def mX6_happen : MI := (6, yX6_happen, cX6_happen, 5, none, 0, 3, 1, 0, 0)
theorem iX6_happen : inf mX6_happen = (6, 0, 3, 1, 0, 0) := rfl
def mX6_findBest : MI := (6, yX6_findBest, cX6_findBest, 4, none, 0, 3, 1, 0, 0)
theorem iX6_findBest : inf mX6_findBest = (6, 0, 3, 1, 0, 0) := rfl
def mX6_bestFrom : MI := (6, yX6_bestFrom, cX6_bestFrom, 5, some .int, 1, 3, 1, 0, 0)
theorem iX6_bestFrom : inf mX6_bestFrom = (6, 1, 3, 1, 0, 0) := rfl
def mX6_hopeBy : MI := (6, yX6_hopeBy, cX6_hopeBy, 3, some .int, 1, 3, 1, 0, 0)
theorem iX6_hopeBy : inf mX6_hopeBy = (6, 1, 3, 1, 0, 0) := rfl
def mX6_hopeOf : MI := (6, yX6_hopeOf, cX6_hopeOf, 2, some .int, 1, 2, 1, 0, 0)
theorem iX6_hopeOf : inf mX6_hopeOf = (6, 1, 2, 1, 0, 0) := rfl
def mX6_most : MI := (6, yX6_most, cX6_most, 1, some .int, 1, 1, 1, 0, 0)
theorem iX6_most : inf mX6_most = (6, 1, 1, 1, 0, 0) := rfl
def mX6_personAt : MI := (6, yX6_personAt, cX6_personAt, 7, some .int, 1, 3, 1, 0, 0)
theorem iX6_personAt : inf mX6_personAt = (6, 1, 3, 1, 0, 0) := rfl
def mX6_nextPerson : MI := (6, yX6_nextPerson, cX6_nextPerson, 6, some .int, 1, 4, 1, 0, 0)
theorem iX6_nextPerson : inf mX6_nextPerson = (6, 1, 4, 1, 0, 0) := rfl
def mX7_init : MI := (7, yX7_init, cX7_init, 3, none, 0, 3, 2, 0, 0)
theorem iX7_init : inf mX7_init = (7, 0, 3, 2, 0, 0) := rfl
def mX7_weigh : MI := (7, yX7_weigh, cX7_weigh, 4, none, 0, 2, 1, 0, 0)
theorem iX7_weigh : inf mX7_weigh = (7, 0, 2, 1, 0, 0) := rfl
def mX7_shift : MI := (7, yX7_shift, cX7_shift, 8, none, 0, 5, 1, 0, 0)
theorem iX7_shift : inf mX7_shift = (7, 0, 5, 1, 0, 0) := rfl
def mX7_wouldLean : MI := (7, yX7_wouldLean, cX7_wouldLean, 8, some .boolean, 3, 5, 1, 0, 0)
theorem iX7_wouldLean : inf mX7_wouldLean = (7, 3, 5, 1, 0, 0) := rfl
def mX7_leanBeside : MI := (7, yX7_leanBeside, cX7_leanBeside, 6, some .boolean, 3, 3, 1, 0, 0)
theorem iX7_leanBeside : inf mX7_leanBeside = (7, 3, 3, 1, 0, 0) := rfl
def mX7_partOfMoment : MI := (7, yX7_partOfMoment, cX7_partOfMoment, 4, some .int, 1, 2, 1, 0, 0)
theorem iX7_partOfMoment : inf mX7_partOfMoment = (7, 1, 2, 1, 0, 0) := rfl
def mX7_lean : MI := (7, yX7_lean, cX7_lean, 2, some .int, 1, 2, 1, 0, 0)
theorem iX7_lean : inf mX7_lean = (7, 1, 2, 1, 0, 0) := rfl
def mX7_isSeenToLean : MI := (7, yX7_isSeenToLean, cX7_isSeenToLean, 2, some .boolean, 3, 1, 1, 0, 0)
theorem iX7_isSeenToLean : inf mX7_isSeenToLean = (7, 3, 1, 1, 0, 0) := rfl
def mX7_isPicture : MI := (7, yX7_isPicture, cX7_isPicture, 3, some .boolean, 3, 2, 1, 0, 0)
theorem iX7_isPicture : inf mX7_isPicture = (7, 3, 2, 1, 0, 0) := rfl
def mX7_picture : MI := (7, yX7_picture, cX7_picture, 4, some .long, 2, 1, 1, 0, 0)
theorem iX7_picture : inf mX7_picture = (7, 2, 1, 1, 0, 0) := rfl
def mX7_leansOtherThan : MI := (7, yX7_leansOtherThan, cX7_leansOtherThan, 4, some .int, 1, 2, 1, 0, 0)
theorem iX7_leansOtherThan : inf mX7_leansOtherThan = (7, 1, 2, 1, 0, 0) := rfl
def mX7_writeLeans : MI := (7, yX7_writeLeans, cX7_writeLeans, 3, none, 0, 2, 1, 0, 0)
theorem iX7_writeLeans : inf mX7_writeLeans = (7, 0, 2, 1, 0, 0) := rfl
def mX7_leansTogether : MI := (7, yX7_leansTogether, cX7_leansTogether, 3, some .int, 1, 1, 1, 0, 0)
theorem iX7_leansTogether : inf mX7_leansTogether = (7, 1, 1, 1, 0, 0) := rfl
def mX8_init : MI := (8, yX8_init, cX8_init, 1, none, 0, 1, 2, 0, 0)
theorem iX8_init : inf mX8_init = (8, 0, 1, 2, 0, 0) := rfl
def mX8_hasRoom : MI := (8, yX8_hasRoom, cX8_hasRoom, 1, some .boolean, 3, 1, 1, 0, 0)
theorem iX8_hasRoom : inf mX8_hasRoom = (8, 3, 1, 1, 0, 0) := rfl
def mX8_add : MI := (8, yX8_add, cX8_add, 3, none, 0, 2, 1, 0, 0)
theorem iX8_add : inf mX8_add = (8, 0, 2, 1, 0, 0) := rfl
def mX8_empty : MI := (8, yX8_empty, cX8_empty, 1, none, 0, 1, 1, 0, 0)
theorem iX8_empty : inf mX8_empty = (8, 0, 1, 1, 0, 0) := rfl
def mX8_byteAt : MI := (8, yX8_byteAt, cX8_byteAt, 2, some .int, 1, 2, 1, 0, 0)
theorem iX8_byteAt : inf mX8_byteAt = (8, 1, 2, 1, 0, 0) := rfl
def mX8_numberAt : MI := (8, yX8_numberAt, cX8_numberAt, 4, some .int, 1, 2, 1, 0, 0)
theorem iX8_numberAt : inf mX8_numberAt = (8, 1, 2, 1, 0, 0) := rfl
def mX8_allWithin : MI := (8, yX8_allWithin, cX8_allWithin, 5, some .boolean, 3, 4, 1, 0, 0)
theorem iX8_allWithin : inf mX8_allWithin = (8, 3, 4, 1, 0, 0) := rfl
def mX9_init : MI := (9, yX9_init, cX9_init, 4, none, 0, 4, 2, 0, 0)
theorem iX9_init : inf mX9_init = (9, 0, 4, 2, 0, 0) := rfl
def mX9_readPicture : MI := (9, yX9_readPicture, cX9_readPicture, 4, some .boolean, 3, 2, 1, 0, 0)
theorem iX9_readPicture : inf mX9_readPicture = (9, 3, 2, 1, 0, 0) := rfl
def mX9_startWatch : MI := (9, yX9_startWatch, cX9_startWatch, 2, none, 0, 1, 1, 0, 0)
theorem iX9_startWatch : inf mX9_startWatch = (9, 0, 1, 1, 0, 0) := rfl
def mX9_isInQuestion : MI := (9, yX9_isInQuestion, cX9_isInQuestion, 2, some .boolean, 3, 2, 1, 0, 0)
theorem iX9_isInQuestion : inf mX9_isInQuestion = (9, 3, 2, 1, 0, 0) := rfl
def mX9_mayBe : MI := (9, yX9_mayBe, cX9_mayBe, 5, some .boolean, 3, 3, 1, 0, 0)
theorem iX9_mayBe : inf mX9_mayBe = (9, 3, 3, 1, 0, 0) := rfl
def mX9_falseLengths : MI := (9, yX9_falseLengths, cX9_falseLengths, 4, some .int, 1, 2, 1, 0, 0)
theorem iX9_falseLengths : inf mX9_falseLengths = (9, 1, 2, 1, 0, 0) := rfl
def mX9_suspectBits : MI := (9, yX9_suspectBits, cX9_suspectBits, 6, some .long, 2, 1, 1, 0, 0)
theorem iX9_suspectBits : inf mX9_suspectBits = (9, 2, 1, 1, 0, 0) := rfl
def mX9_collectCases : MI := (9, yX9_collectCases, cX9_collectCases, 3, some .int, 1, 1, 1, 0, 0)
theorem iX9_collectCases : inf mX9_collectCases = (9, 1, 1, 1, 0, 0) := rfl
def mX9_findGust : MI := (9, yX9_findGust, cX9_findGust, 7, none, 0, 3, 1, 0, 0)
theorem iX9_findGust : inf mX9_findGust = (9, 0, 3, 1, 0, 0) := rfl
def mX9_crowdBy : MI := (9, yX9_crowdBy, cX9_crowdBy, 3, some .int, 1, 2, 1, 0, 0)
theorem iX9_crowdBy : inf mX9_crowdBy = (9, 1, 2, 1, 0, 0) := rfl
def mX9_pictureOf : MI := (9, yX9_pictureOf, cX9_pictureOf, 8, some .long, 2, 4, 1, 0, 0)
theorem iX9_pictureOf : inf mX9_pictureOf = (9, 2, 4, 1, 0, 0) := rfl
def mX9_sort : MI := (9, yX9_sort, cX9_sort, 8, none, 0, 2, 0, 0, 0)
theorem iX9_sort : inf mX9_sort = (9, 0, 2, 0, 0, 0) := rfl
def mX9_longestStretch : MI := (9, yX9_longestStretch, cX9_longestStretch, 5, some .int, 1, 2, 0, 0, 0)
theorem iX9_longestStretch : inf mX9_longestStretch = (9, 1, 2, 0, 0, 0) := rfl
def mX10_init : MI := (10, yX10_init, cX10_init, 1, none, 0, 1, 2, 0, 0)
theorem iX10_init : inf mX10_init = (10, 0, 1, 2, 0, 0) := rfl
def mX10_rod : MI := (10, yX10_rod, cX10_rod, 3, some .int, 1, 3, 1, 0, 0)
theorem iX10_rod : inf mX10_rod = (10, 1, 3, 1, 0, 0) := rfl
def mX10_stiff : MI := (10, yX10_stiff, cX10_stiff, 3, some .boolean, 3, 3, 1, 0, 0)
theorem iX10_stiff : inf mX10_stiff = (10, 3, 3, 1, 0, 0) := rfl
def mX10_seen : MI := (10, yX10_seen, cX10_seen, 3, some .boolean, 3, 3, 1, 0, 0)
theorem iX10_seen : inf mX10_seen = (10, 3, 3, 1, 0, 0) := rfl
def mX10_wet : MI := (10, yX10_wet, cX10_wet, 3, some .boolean, 3, 3, 1, 0, 0)
theorem iX10_wet : inf mX10_wet = (10, 3, 3, 1, 0, 0) := rfl
def mX10_white : MI := (10, yX10_white, cX10_white, 5, some .int, 1, 5, 1, 0, 0)
theorem iX10_white : inf mX10_white = (10, 1, 5, 1, 0, 0) := rfl
def mX10_red : MI := (10, yX10_red, cX10_red, 6, some .int, 1, 6, 1, 0, 0)
theorem iX10_red : inf mX10_red = (10, 1, 6, 1, 0, 0) := rfl
def mX10_wind : MI := (10, yX10_wind, cX10_wind, 2, some .boolean, 3, 2, 1, 0, 0)
theorem iX10_wind : inf mX10_wind = (10, 3, 2, 1, 0, 0) := rfl
def mX10_feed : MI := (10, yX10_feed, cX10_feed, 6, some .int, 1, 6, 1, 0, 0)
theorem iX10_feed : inf mX10_feed = (10, 1, 6, 1, 0, 0) := rfl
def mX10_law : MI := (10, yX10_law, cX10_law, 3, some .int, 1, 2, 1, 0, 0)
theorem iX10_law : inf mX10_law = (10, 1, 2, 1, 0, 0) := rfl
def mX10_rodIs : MI := (10, yX10_rodIs, cX10_rodIs, 3, some .int, 1, 3, 1, 0, 0)
theorem iX10_rodIs : inf mX10_rodIs = (10, 1, 3, 1, 0, 0) := rfl
def mX10_ribbon : MI := (10, yX10_ribbon, cX10_ribbon, 3, some .int, 1, 3, 1, 0, 0)
theorem iX10_ribbon : inf mX10_ribbon = (10, 1, 3, 1, 0, 0) := rfl
def mX10_balance : MI := (10, yX10_balance, cX10_balance, 2, some .int, 1, 2, 1, 0, 0)
theorem iX10_balance : inf mX10_balance = (10, 1, 2, 1, 0, 0) := rfl
def mX10_move : MI := (10, yX10_move, cX10_move, 4, some .boolean, 3, 4, 1, 0, 0)
theorem iX10_move : inf mX10_move = (10, 3, 4, 1, 0, 0) := rfl
def mX10_fall : MI := (10, yX10_fall, cX10_fall, 2, some .boolean, 3, 2, 1, 0, 0)
theorem iX10_fall : inf mX10_fall = (10, 3, 2, 1, 0, 0) := rfl
def mX10_pay : MI := (10, yX10_pay, cX10_pay, 5, some .int, 1, 5, 1, 0, 0)
theorem iX10_pay : inf mX10_pay = (10, 1, 5, 1, 0, 0) := rfl
def mX10_level : MI := (10, yX10_level, cX10_level, 5, some .int, 1, 3, 1, 0, 0)
theorem iX10_level : inf mX10_level = (10, 1, 3, 1, 0, 0) := rfl
def mX10_falseBy : MI := (10, yX10_falseBy, cX10_falseBy, 3, some .int, 1, 2, 1, 0, 0)
theorem iX10_falseBy : inf mX10_falseBy = (10, 1, 2, 1, 0, 0) := rfl
def mX10_suspects : MI := (10, yX10_suspects, cX10_suspects, 2, some .long, 2, 1, 1, 0, 0)
theorem iX10_suspects : inf mX10_suspects = (10, 2, 1, 1, 0, 0) := rfl
def mX10_gust : MI := (10, yX10_gust, cX10_gust, 5, some .int, 1, 3, 1, 0, 0)
theorem iX10_gust : inf mX10_gust = (10, 1, 3, 1, 0, 0) := rfl
def mX10_fraud : MI := (10, yX10_fraud, cX10_fraud, 6, some .int, 1, 5, 1, 0, 0)
theorem iX10_fraud : inf mX10_fraud = (10, 1, 5, 1, 0, 0) := rfl
def mX10_owes : MI := (10, yX10_owes, cX10_owes, 3, some .int, 1, 3, 1, 0, 0)
theorem iX10_owes : inf mX10_owes = (10, 1, 3, 1, 0, 0) := rfl
def mX10_ring : MI := (10, yX10_ring, cX10_ring, 2, some .int, 1, 2, 1, 0, 0)
theorem iX10_ring : inf mX10_ring = (10, 1, 2, 1, 0, 0) := rfl
def mX10_clear : MI := (10, yX10_clear, cX10_clear, 1, some .int, 1, 1, 1, 0, 0)
theorem iX10_clear : inf mX10_clear = (10, 1, 1, 1, 0, 0) := rfl
def mX10_run : MI := (10, yX10_run, cX10_run, 6, some .int, 1, 4, 1, 0, 0)
theorem iX10_run : inf mX10_run = (10, 1, 4, 1, 0, 0) := rfl
def mX10_order : MI := (10, yX10_order, cX10_order, 5, some .int, 1, 4, 1, 0, 0)
theorem iX10_order : inf mX10_order = (10, 1, 4, 1, 0, 0) := rfl
def mX10_seed : MI := (10, yX10_seed, cX10_seed, 2, some .boolean, 3, 2, 1, 0, 0)
theorem iX10_seed : inf mX10_seed = (10, 3, 2, 1, 0, 0) := rfl
def mX10_draw : MI := (10, yX10_draw, cX10_draw, 4, some .int, 1, 2, 1, 0, 0)
theorem iX10_draw : inf mX10_draw = (10, 1, 2, 1, 0, 0) := rfl
def mX10_keep : MI := (10, yX10_keep, cX10_keep, 1, some .int, 1, 1, 1, 0, 0)
theorem iX10_keep : inf mX10_keep = (10, 1, 1, 1, 0, 0) := rfl
def mX10_undo : MI := (10, yX10_undo, cX10_undo, 1, some .boolean, 3, 1, 1, 0, 0)
theorem iX10_undo : inf mX10_undo = (10, 3, 1, 1, 0, 0) := rfl
def mX10_check : MI := (10, yX10_check, cX10_check, 3, some .int, 1, 2, 1, 0, 0)
theorem iX10_check : inf mX10_check = (10, 1, 2, 1, 0, 0) := rfl
def mX10_count : MI := (10, yX10_count, cX10_count, 2, some .int, 1, 2, 1, 0, 0)
theorem iX10_count : inf mX10_count = (10, 1, 2, 1, 0, 0) := rfl
def mX10_mayHang : MI := (10, yX10_mayHang, cX10_mayHang, 5, some .boolean, 3, 5, 1, 0, 0)
theorem iX10_mayHang : inf mX10_mayHang = (10, 3, 5, 1, 0, 0) := rfl
def mX10_within : MI := (10, yX10_within, cX10_within, 3, some .boolean, 3, 3, 0, 0, 0)
theorem iX10_within : inf mX10_within = (10, 3, 3, 0, 0, 0) := rfl
def mX10_reaches : MI := (10, yX10_reaches, cX10_reaches, 1, some .boolean, 3, 1, 0, 0, 0)
theorem iX10_reaches : inf mX10_reaches = (10, 3, 1, 0, 0, 0) := rfl
def mX10_isPerson : MI := (10, yX10_isPerson, cX10_isPerson, 1, some .boolean, 3, 1, 0, 0, 0)
theorem iX10_isPerson : inf mX10_isPerson = (10, 3, 1, 0, 0, 0) := rfl
def mX10_areTwo : MI := (10, yX10_areTwo, cX10_areTwo, 2, some .boolean, 3, 2, 0, 0, 0)
theorem iX10_areTwo : inf mX10_areTwo = (10, 3, 2, 0, 0, 0) := rfl
def mX10_leanOf : MI := (10, yX10_leanOf, cX10_leanOf, 3, some .int, 1, 2, 0, 0, 0)
theorem iX10_leanOf : inf mX10_leanOf = (10, 1, 2, 0, 0, 0) := rfl
def mX11_init : MI := (11, yX11_init, cX11_init, 2, none, 0, 1, 2, 0, 0)
theorem iX11_init : inf mX11_init = (11, 0, 1, 2, 0, 0) := rfl
def mX11_lies : MI := (11, yX11_lies, cX11_lies, 6, some .boolean, 3, 3, 0, 0, 0)
theorem iX11_lies : inf mX11_lies = (11, 3, 3, 0, 0, 0) := rfl
def mX11_has : MI := (11, yX11_has, cX11_has, 2, some .boolean, 3, 2, 0, 0, 0)
theorem iX11_has : inf mX11_has = (11, 3, 2, 0, 0, 0) := rfl
def mX11_isRod : MI := (11, yX11_isRod, cX11_isRod, 2, some .boolean, 3, 2, 1, 0, 0)
theorem iX11_isRod : inf mX11_isRod = (11, 3, 2, 1, 0, 0) := rfl
def mX11_isArm : MI := (11, yX11_isArm, cX11_isArm, 1, some .boolean, 3, 1, 0, 0, 0)
theorem iX11_isArm : inf mX11_isArm = (11, 3, 1, 0, 0, 0) := rfl
def mX11_isPerson : MI := (11, yX11_isPerson, cX11_isPerson, 1, some .boolean, 3, 1, 0, 0, 0)
theorem iX11_isPerson : inf mX11_isPerson = (11, 3, 1, 0, 0, 0) := rfl
def mX11_isRibbon : MI := (11, yX11_isRibbon, cX11_isRibbon, 2, some .boolean, 3, 2, 1, 0, 0)
theorem iX11_isRibbon : inf mX11_isRibbon = (11, 3, 2, 1, 0, 0) := rfl
def mX11_rod : MI := (11, yX11_rod, cX11_rod, 3, some .int, 1, 3, 1, 0, 0)
theorem iX11_rod : inf mX11_rod = (11, 1, 3, 1, 0, 0) := rfl
def mX11_stiff : MI := (11, yX11_stiff, cX11_stiff, 3, some .boolean, 3, 3, 1, 0, 0)
theorem iX11_stiff : inf mX11_stiff = (11, 3, 3, 1, 0, 0) := rfl
def mX11_seen : MI := (11, yX11_seen, cX11_seen, 3, some .boolean, 3, 3, 1, 0, 0)
theorem iX11_seen : inf mX11_seen = (11, 3, 3, 1, 0, 0) := rfl
def mX11_wet : MI := (11, yX11_wet, cX11_wet, 3, some .boolean, 3, 3, 1, 0, 0)
theorem iX11_wet : inf mX11_wet = (11, 3, 3, 1, 0, 0) := rfl
def mX11_adds : MI := (11, yX11_adds, cX11_adds, 7, some .int, 1, 7, 1, 0, 0)
theorem iX11_adds : inf mX11_adds = (11, 1, 7, 1, 0, 0) := rfl
def mX11_white : MI := (11, yX11_white, cX11_white, 5, some .int, 1, 5, 1, 0, 0)
theorem iX11_white : inf mX11_white = (11, 1, 5, 1, 0, 0) := rfl
def mX11_red : MI := (11, yX11_red, cX11_red, 6, some .int, 1, 6, 1, 0, 0)
theorem iX11_red : inf mX11_red = (11, 1, 6, 1, 0, 0) := rfl
def mX11_wind : MI := (11, yX11_wind, cX11_wind, 2, some .boolean, 3, 2, 1, 0, 0)
theorem iX11_wind : inf mX11_wind = (11, 3, 2, 1, 0, 0) := rfl
def mX11_push : MI := (11, yX11_push, cX11_push, 3, none, 0, 2, 1, 0, 0)
theorem iX11_push : inf mX11_push = (11, 0, 2, 1, 0, 0) := rfl
def mX11_feed : MI := (11, yX11_feed, cX11_feed, 6, some .int, 1, 6, 1, 0, 0)
theorem iX11_feed : inf mX11_feed = (11, 1, 6, 1, 0, 0) := rfl
def mX11_byteAt : MI := (11, yX11_byteAt, cX11_byteAt, 2, some .int, 1, 2, 1, 0, 0)
theorem iX11_byteAt : inf mX11_byteAt = (11, 1, 2, 1, 0, 0) := rfl
def mX11_here : MI := (11, yX11_here, cX11_here, 1, some .int, 1, 1, 1, 0, 0)
theorem iX11_here : inf mX11_here = (11, 1, 1, 1, 0, 0) := rfl
def mX11_wrongs : MI := (11, yX11_wrongs, cX11_wrongs, 3, none, 0, 3, 1, 0, 0)
theorem iX11_wrongs : inf mX11_wrongs = (11, 0, 3, 1, 0, 0) := rfl
def mX11_isGood : MI := (11, yX11_isGood, cX11_isGood, 1, some .boolean, 3, 1, 1, 0, 0)
theorem iX11_isGood : inf mX11_isGood = (11, 3, 1, 1, 0, 0) := rfl
def mX11_emit : MI := (11, yX11_emit, cX11_emit, 3, none, 0, 3, 1, 0, 0)
theorem iX11_emit : inf mX11_emit = (11, 0, 3, 1, 0, 0) := rfl
def mX11_top : MI := (11, yX11_top, cX11_top, 1, some .int, 1, 1, 1, 0, 0)
theorem iX11_top : inf mX11_top = (11, 1, 1, 1, 0, 0) := rfl
def mX11_puts : MI := (11, yX11_puts, cX11_puts, 2, none, 0, 2, 1, 0, 0)
theorem iX11_puts : inf mX11_puts = (11, 0, 2, 1, 0, 0) := rfl
def mX11_opens : MI := (11, yX11_opens, cX11_opens, 1, none, 0, 1, 1, 0, 0)
theorem iX11_opens : inf mX11_opens = (11, 0, 1, 1, 0, 0) := rfl
def mX11_seesDigit : MI := (11, yX11_seesDigit, cX11_seesDigit, 1, some .boolean, 3, 1, 1, 0, 0)
theorem iX11_seesDigit : inf mX11_seesDigit = (11, 3, 1, 1, 0, 0) := rfl
def mX11_reads : MI := (11, yX11_reads, cX11_reads, 3, some .int, 1, 1, 1, 0, 0)
theorem iX11_reads : inf mX11_reads = (11, 1, 1, 1, 0, 0) := rfl
def mX11_isTimes : MI := (11, yX11_isTimes, cX11_isTimes, 1, some .boolean, 3, 1, 0, 0, 0)
theorem iX11_isTimes : inf mX11_isTimes = (11, 3, 1, 0, 0, 0) := rfl
def mX11_isPlus : MI := (11, yX11_isPlus, cX11_isPlus, 1, some .boolean, 3, 1, 0, 0, 0)
theorem iX11_isPlus : inf mX11_isPlus = (11, 3, 1, 0, 0, 0) := rfl
def mX11_isSign : MI := (11, yX11_isSign, cX11_isSign, 1, some .boolean, 3, 1, 0, 0, 0)
theorem iX11_isSign : inf mX11_isSign = (11, 3, 1, 0, 0, 0) := rfl
def mX11_isValue : MI := (11, yX11_isValue, cX11_isValue, 1, some .boolean, 3, 1, 0, 0, 0)
theorem iX11_isValue : inf mX11_isValue = (11, 3, 1, 0, 0, 0) := rfl
def mX11_sums : MI := (11, yX11_sums, cX11_sums, 2, none, 0, 2, 1, 0, 0)
theorem iX11_sums : inf mX11_sums = (11, 0, 2, 1, 0, 0) := rfl
def mX11_joins : MI := (11, yX11_joins, cX11_joins, 2, none, 0, 2, 1, 0, 0)
theorem iX11_joins : inf mX11_joins = (11, 0, 2, 1, 0, 0) := rfl
def mX11_ends : MI := (11, yX11_ends, cX11_ends, 1, none, 0, 1, 1, 0, 0)
theorem iX11_ends : inf mX11_ends = (11, 0, 1, 1, 0, 0) := rfl
def mX11_factor : MI := (11, yX11_factor, cX11_factor, 1, none, 0, 1, 1, 0, 0)
theorem iX11_factor : inf mX11_factor = (11, 0, 1, 1, 0, 0) := rfl
def mX11_stays : MI := (11, yX11_stays, cX11_stays, 2, some .boolean, 3, 1, 1, 0, 0)
theorem iX11_stays : inf mX11_stays = (11, 3, 1, 1, 0, 0) := rfl
def mX11_value : MI := (11, yX11_value, cX11_value, 2, none, 0, 1, 1, 0, 0)
theorem iX11_value : inf mX11_value = (11, 0, 1, 1, 0, 0) := rfl
def mX11_pieceOfC : MI := (11, yX11_pieceOfC, cX11_pieceOfC, 2, none, 0, 1, 1, 0, 0)
theorem iX11_pieceOfC : inf mX11_pieceOfC = (11, 0, 1, 1, 0, 0) := rfl
def mX11_goesBehind : MI := (11, yX11_goesBehind, cX11_goesBehind, 2, some .boolean, 3, 1, 1, 0, 0)
theorem iX11_goesBehind : inf mX11_goesBehind = (11, 3, 1, 1, 0, 0) := rfl
def mX11_condition : MI := (11, yX11_condition, cX11_condition, 2, none, 0, 1, 1, 0, 0)
theorem iX11_condition : inf mX11_condition = (11, 0, 1, 1, 0, 0) := rfl
def mX11_clause : MI := (11, yX11_clause, cX11_clause, 2, none, 0, 1, 1, 0, 0)
theorem iX11_clause : inf mX11_clause = (11, 0, 1, 1, 0, 0) := rfl
def mX11_law : MI := (11, yX11_law, cX11_law, 4, some .int, 1, 2, 1, 0, 0)
theorem iX11_law : inf mX11_law = (11, 1, 2, 1, 0, 0) := rfl
def mX11_valueOf : MI := (11, yX11_valueOf, cX11_valueOf, 2, some .int, 1, 2, 1, 0, 0)
theorem iX11_valueOf : inf mX11_valueOf = (11, 1, 2, 1, 0, 0) := rfl
def mX11_worked : MI := (11, yX11_worked, cX11_worked, 3, some .int, 1, 3, 0, 0, 0)
theorem iX11_worked : inf mX11_worked = (11, 1, 3, 0, 0, 0) := rfl
def mX11_does : MI := (11, yX11_does, cX11_does, 4, none, 0, 3, 1, 0, 0)
theorem iX11_does : inf mX11_does = (11, 0, 3, 1, 0, 0) := rfl
def mX11_works : MI := (11, yX11_works, cX11_works, 5, none, 0, 3, 1, 0, 0)
theorem iX11_works : inf mX11_works = (11, 0, 3, 1, 0, 0) := rfl
def mX11_tells : MI := (11, yX11_tells, cX11_tells, 8, some .int, 1, 6, 1, 0, 0)
theorem iX11_tells : inf mX11_tells = (11, 1, 6, 1, 0, 0) := rfl
def mX11_heavy : MI := (11, yX11_heavy, cX11_heavy, 2, some .int, 1, 2, 1, 0, 0)
theorem iX11_heavy : inf mX11_heavy = (11, 1, 2, 1, 0, 0) := rfl
def mX11_pushed : MI := (11, yX11_pushed, cX11_pushed, 2, some .int, 1, 2, 1, 0, 0)
theorem iX11_pushed : inf mX11_pushed = (11, 1, 2, 1, 0, 0) := rfl
def mX11_laysLeans : MI := (11, yX11_laysLeans, cX11_laysLeans, 3, none, 0, 1, 1, 0, 0)
theorem iX11_laysLeans : inf mX11_laysLeans = (11, 0, 1, 1, 0, 0) := rfl
def mX11_picture : MI := (11, yX11_picture, cX11_picture, 4, some .long, 2, 1, 1, 0, 0)
theorem iX11_picture : inf mX11_picture = (11, 2, 1, 1, 0, 0) := rfl
def mX11_rodIs : MI := (11, yX11_rodIs, cX11_rodIs, 3, some .int, 1, 3, 1, 0, 0)
theorem iX11_rodIs : inf mX11_rodIs = (11, 1, 3, 1, 0, 0) := rfl
def mX11_ribbon : MI := (11, yX11_ribbon, cX11_ribbon, 3, some .int, 1, 3, 1, 0, 0)
theorem iX11_ribbon : inf mX11_ribbon = (11, 1, 3, 1, 0, 0) := rfl
def mX11_balance : MI := (11, yX11_balance, cX11_balance, 4, some .int, 1, 2, 1, 0, 0)
theorem iX11_balance : inf mX11_balance = (11, 1, 2, 1, 0, 0) := rfl
def mX11_move : MI := (11, yX11_move, cX11_move, 4, some .boolean, 3, 4, 1, 0, 0)
theorem iX11_move : inf mX11_move = (11, 3, 4, 1, 0, 0) := rfl
def mX11_fall : MI := (11, yX11_fall, cX11_fall, 2, some .boolean, 3, 2, 1, 0, 0)
theorem iX11_fall : inf mX11_fall = (11, 3, 2, 1, 0, 0) := rfl
def mX11_isWhiteOf : MI := (11, yX11_isWhiteOf, cX11_isWhiteOf, 3, some .boolean, 3, 3, 1, 0, 0)
theorem iX11_isWhiteOf : inf mX11_isWhiteOf = (11, 3, 3, 1, 0, 0) := rfl
def mX11_canKnot : MI := (11, yX11_canKnot, cX11_canKnot, 6, some .boolean, 3, 6, 1, 0, 0)
theorem iX11_canKnot : inf mX11_canKnot = (11, 3, 6, 1, 0, 0) := rfl
def mX11_knots : MI := (11, yX11_knots, cX11_knots, 4, none, 0, 4, 1, 0, 0)
theorem iX11_knots : inf mX11_knots = (11, 0, 4, 1, 0, 0) := rfl
def mX11_othersBy : MI := (11, yX11_othersBy, cX11_othersBy, 6, some .int, 1, 4, 1, 0, 0)
theorem iX11_othersBy : inf mX11_othersBy = (11, 1, 4, 1, 0, 0) := rfl
def mX11_pay : MI := (11, yX11_pay, cX11_pay, 11, some .int, 1, 5, 1, 0, 0)
theorem iX11_pay : inf mX11_pay = (11, 1, 5, 1, 0, 0) := rfl
def mX11_takesPlaces : MI := (11, yX11_takesPlaces, cX11_takesPlaces, 5, some .boolean, 3, 2, 1, 0, 0)
theorem iX11_takesPlaces : inf mX11_takesPlaces = (11, 3, 2, 1, 0, 0) := rfl
def mX11_hangsBy : MI := (11, yX11_hangsBy, cX11_hangsBy, 3, none, 0, 3, 1, 0, 0)
theorem iX11_hangsBy : inf mX11_hangsBy = (11, 0, 3, 1, 0, 0) := rfl
def mX11_size : MI := (11, yX11_size, cX11_size, 1, some .int, 1, 1, 0, 0, 0)
theorem iX11_size : inf mX11_size = (11, 1, 1, 0, 0, 0) := rfl
def mX11_sumOfLeans : MI := (11, yX11_sumOfLeans, cX11_sumOfLeans, 3, some .int, 1, 1, 1, 0, 0)
theorem iX11_sumOfLeans : inf mX11_sumOfLeans = (11, 1, 1, 1, 0, 0) := rfl
def mX11_goesOn : MI := (11, yX11_goesOn, cX11_goesOn, 7, some .boolean, 3, 2, 1, 0, 0)
theorem iX11_goesOn : inf mX11_goesOn = (11, 3, 2, 1, 0, 0) := rfl
def mX11_level : MI := (11, yX11_level, cX11_level, 7, some .int, 1, 3, 1, 0, 0)
theorem iX11_level : inf mX11_level = (11, 1, 3, 1, 0, 0) := rfl
def mX11_seenMany : MI := (11, yX11_seenMany, cX11_seenMany, 3, some .int, 1, 1, 1, 0, 0)
theorem iX11_seenMany : inf mX11_seenMany = (11, 1, 1, 1, 0, 0) := rfl
def mX11_toldPicture : MI := (11, yX11_toldPicture, cX11_toldPicture, 5, some .long, 2, 2, 1, 0, 0)
theorem iX11_toldPicture : inf mX11_toldPicture = (11, 2, 2, 1, 0, 0) := rfl
def mX11_canBe : MI := (11, yX11_canBe, cX11_canBe, 7, some .boolean, 3, 4, 1, 0, 0)
theorem iX11_canBe : inf mX11_canBe = (11, 3, 4, 1, 0, 0) := rfl
def mX11_lengthsOf : MI := (11, yX11_lengthsOf, cX11_lengthsOf, 6, some .int, 1, 3, 1, 0, 0)
theorem iX11_lengthsOf : inf mX11_lengthsOf = (11, 1, 3, 1, 0, 0) := rfl
def mX11_falseBy : MI := (11, yX11_falseBy, cX11_falseBy, 5, some .int, 1, 2, 1, 0, 0)
theorem iX11_falseBy : inf mX11_falseBy = (11, 1, 2, 1, 0, 0) := rfl
def mX11_suspects : MI := (11, yX11_suspects, cX11_suspects, 7, some .long, 2, 1, 1, 0, 0)
theorem iX11_suspects : inf mX11_suspects = (11, 2, 1, 1, 0, 0) := rfl
def mX11_laysFalse : MI := (11, yX11_laysFalse, cX11_laysFalse, 5, none, 0, 2, 1, 0, 0)
theorem iX11_laysFalse : inf mX11_laysFalse = (11, 0, 2, 1, 0, 0) := rfl
def mX11_mostAlike : MI := (11, yX11_mostAlike, cX11_mostAlike, 7, some .int, 1, 2, 1, 0, 0)
theorem iX11_mostAlike : inf mX11_mostAlike = (11, 1, 2, 1, 0, 0) := rfl
def mX11_gust : MI := (11, yX11_gust, cX11_gust, 10, some .int, 1, 3, 1, 0, 0)
theorem iX11_gust : inf mX11_gust = (11, 1, 3, 1, 0, 0) := rfl
def mX11_isUnseen : MI := (11, yX11_isUnseen, cX11_isUnseen, 5, some .boolean, 3, 2, 1, 0, 0)
theorem iX11_isUnseen : inf mX11_isUnseen = (11, 3, 2, 1, 0, 0) := rfl
def mX11_isFraud : MI := (11, yX11_isFraud, cX11_isFraud, 6, some .boolean, 3, 5, 1, 0, 0)
theorem iX11_isFraud : inf mX11_isFraud = (11, 3, 5, 1, 0, 0) := rfl
def mX11_fraud : MI := (11, yX11_fraud, cX11_fraud, 9, some .int, 1, 5, 1, 0, 0)
theorem iX11_fraud : inf mX11_fraud = (11, 1, 5, 1, 0, 0) := rfl
def mX11_laysDebts : MI := (11, yX11_laysDebts, cX11_laysDebts, 2, none, 0, 1, 1, 0, 0)
theorem iX11_laysDebts : inf mX11_laysDebts = (11, 0, 1, 1, 0, 0) := rfl
def mX11_owes : MI := (11, yX11_owes, cX11_owes, 3, some .int, 1, 3, 1, 0, 0)
theorem iX11_owes : inf mX11_owes = (11, 1, 3, 1, 0, 0) := rfl
def mX11_isOn : MI := (11, yX11_isOn, cX11_isOn, 4, some .boolean, 3, 3, 1, 0, 0)
theorem iX11_isOn : inf mX11_isOn = (11, 3, 3, 1, 0, 0) := rfl
def mX11_looksAt : MI := (11, yX11_looksAt, cX11_looksAt, 5, none, 0, 2, 1, 0, 0)
theorem iX11_looksAt : inf mX11_looksAt = (11, 0, 2, 1, 0, 0) := rfl
def mX11_findsRing : MI := (11, yX11_findsRing, cX11_findsRing, 4, none, 0, 1, 1, 0, 0)
theorem iX11_findsRing : inf mX11_findsRing = (11, 0, 1, 1, 0, 0) := rfl
def mX11_ring : MI := (11, yX11_ring, cX11_ring, 2, some .int, 1, 2, 1, 0, 0)
theorem iX11_ring : inf mX11_ring = (11, 1, 2, 1, 0, 0) := rfl
def mX11_cuts : MI := (11, yX11_cuts, cX11_cuts, 7, none, 0, 4, 1, 0, 0)
theorem iX11_cuts : inf mX11_cuts = (11, 0, 4, 1, 0, 0) := rfl
def mX11_clear : MI := (11, yX11_clear, cX11_clear, 3, some .int, 1, 1, 1, 0, 0)
theorem iX11_clear : inf mX11_clear = (11, 1, 1, 1, 0, 0) := rfl
def mX11_isTipped : MI := (11, yX11_isTipped, cX11_isTipped, 4, some .boolean, 3, 3, 1, 0, 0)
theorem iX11_isTipped : inf mX11_isTipped = (11, 3, 3, 1, 0, 0) := rfl
def mX11_whiteOf : MI := (11, yX11_whiteOf, cX11_whiteOf, 4, some .int, 1, 2, 1, 0, 0)
theorem iX11_whiteOf : inf mX11_whiteOf = (11, 1, 2, 1, 0, 0) := rfl
def mX11_run : MI := (11, yX11_run, cX11_run, 8, some .int, 1, 4, 1, 0, 0)
theorem iX11_run : inf mX11_run = (11, 1, 4, 1, 0, 0) := rfl
def mX11_getsBy : MI := (11, yX11_getsBy, cX11_getsBy, 3, some .int, 1, 3, 1, 0, 0)
theorem iX11_getsBy : inf mX11_getsBy = (11, 1, 3, 1, 0, 0) := rfl
def mX11_sizeOf : MI := (11, yX11_sizeOf, cX11_sizeOf, 3, some .int, 1, 1, 0, 0, 0)
theorem iX11_sizeOf : inf mX11_sizeOf = (11, 1, 1, 0, 0, 0) := rfl
def mX11_order : MI := (11, yX11_order, cX11_order, 9, some .int, 1, 4, 1, 0, 0)
theorem iX11_order : inf mX11_order = (11, 1, 4, 1, 0, 0) := rfl
def mX11_seed : MI := (11, yX11_seed, cX11_seed, 2, some .boolean, 3, 2, 1, 0, 0)
theorem iX11_seed : inf mX11_seed = (11, 3, 2, 1, 0, 0) := rfl
def mX11_someLeans : MI := (11, yX11_someLeans, cX11_someLeans, 2, some .boolean, 3, 1, 1, 0, 0)
theorem iX11_someLeans : inf mX11_someLeans = (11, 3, 1, 1, 0, 0) := rfl
def mX11_draw : MI := (11, yX11_draw, cX11_draw, 4, some .int, 1, 2, 1, 0, 0)
theorem iX11_draw : inf mX11_draw = (11, 1, 2, 1, 0, 0) := rfl
def mX11_hanging : MI := (11, yX11_hanging, cX11_hanging, 3, some .int, 1, 1, 1, 0, 0)
theorem iX11_hanging : inf mX11_hanging = (11, 1, 1, 1, 0, 0) := rfl
def mX11_keep : MI := (11, yX11_keep, cX11_keep, 2, some .int, 1, 1, 1, 0, 0)
theorem iX11_keep : inf mX11_keep = (11, 1, 1, 1, 0, 0) := rfl
def mX11_undo : MI := (11, yX11_undo, cX11_undo, 2, some .boolean, 3, 1, 1, 0, 0)
theorem iX11_undo : inf mX11_undo = (11, 3, 1, 1, 0, 0) := rfl
def mX11_numberAt : MI := (11, yX11_numberAt, cX11_numberAt, 4, some .int, 1, 2, 1, 0, 0)
theorem iX11_numberAt : inf mX11_numberAt = (11, 1, 2, 1, 0, 0) := rfl
def mX11_check : MI := (11, yX11_check, cX11_check, 3, some .int, 1, 2, 1, 0, 0)
theorem iX11_check : inf mX11_check = (11, 1, 2, 1, 0, 0) := rfl
def mX11_count : MI := (11, yX11_count, cX11_count, 2, some .int, 1, 2, 1, 0, 0)
theorem iX11_count : inf mX11_count = (11, 1, 2, 1, 0, 0) := rfl
def mJ6_bitCount_0f7a4 : MI := (50, yJ6_bitCount_0f7a4, cJ6_bitCount_0f7a4, 1, some .int, 1, 1, 0, 0, 0)
theorem iJ6_bitCount_0f7a4 : inf mJ6_bitCount_0f7a4 = (50, 1, 1, 0, 0, 0) := rfl
def mL_law : MI := (99, yL_law, cL_law, 4, some .boolean, 3, 1, 0, 0, 0)
theorem iL_law : inf mL_law = (99, 3, 1, 0, 0, 0) := rfl
abbrev vwCl : List vw_C := [(RX0, TX0, 6), (RX1, TX1, 12), (RX2, TX2, 5), (RX3, TX3, 16), (RX4, TX4, 12), (RX5, TX5, 12), (RX6, TX6, 8), (RX7, TX7, 6), (RX8, TX8, 2), (RX9, TX9, 10), (RX10, TX10, 12), (RX11, TX11, 85)]
def cn : Nat → String := fun o => match o with
  | 0 => RX0
  | 1 => RX1
  | 2 => RX2
  | 3 => RX3
  | 4 => RX4
  | 5 => RX5
  | 6 => RX6
  | 7 => RX7
  | 8 => RX8
  | 9 => RX9
  | 10 => RX10
  | 11 => RX11
  | 50 => "java/lang/Integer"
  | _ => "BellRibbonsLaw"
def TT : Nat → u_T := fun o => match o with
  | 0 => TX0
  | 1 => TX1
  | 2 => TX2
  | 3 => TX3
  | 4 => TX4
  | 5 => TX5
  | 6 => TX6
  | 7 => TX7
  | 8 => TX8
  | 9 => TX9
  | 10 => TX10
  | _ => TX11
def tyT : Nat → Nat → FieldType := fun o => match o with
  | 0 => tyX0
  | 1 => tyX1
  | 2 => tyX2
  | 3 => tyX3
  | 4 => tyX4
  | 5 => tyX5
  | 6 => tyX6
  | 7 => tyX7
  | 8 => tyX8
  | 9 => tyX9
  | 10 => tyX10
  | _ => tyX11
def NF : Nat → Nat := fun o => match o with
  | 0 => 6
  | 1 => 12
  | 2 => 5
  | 3 => 16
  | 4 => 12
  | 5 => 12
  | 6 => 8
  | 7 => 6
  | 8 => 2
  | 9 => 10
  | 10 => 12
  | 11 => 85
  | _ => 0
/-- kinds of the fields: 0 int, 1 long, 2 reference, 3 boolean -/
def kdT : Nat → List Nat := fun o => match o with
  | 0 => [2, 2, 2, 2, 0, 0]
  | 1 => [2, 2, 2, 2, 2, 2, 2, 0, 0, 0, 3, 3]
  | 2 => [2, 2, 0, 0, 0]
  | 3 => [2, 2, 2, 2, 2, 2, 2, 2, 2, 2, 2, 2, 0, 0, 0, 0]
  | 4 => [2, 2, 2, 2, 2, 2, 2, 2, 2, 2, 0, 0]
  | 5 => [2, 2, 2, 2, 2, 2, 2, 0, 0, 0, 0, 0]
  | 6 => [2, 2, 2, 2, 2, 2, 0, 0]
  | 7 => [2, 2, 2, 2, 2, 2]
  | 8 => [2, 0]
  | 9 => [2, 2, 2, 2, 2, 2, 0, 1, 0, 0]
  | 10 => [2, 2, 2, 2, 2, 2, 2, 2, 2, 2, 2, 3]
  | 11 => [2, 0, 0, 0, 0, 0, 2, 2, 2, 2, 2, 2, 2, 2, 2, 2, 2, 2, 0, 2, 2, 2, 2, 2, 2, 2, 2, 2, 2, 2, 2, 0, 0, 0, 0, 0, 0, 0, 3, 3, 2, 0, 2, 2, 2, 2, 2, 2, 2, 2, 2, 2, 2, 2, 2, 2, 2, 2, 2, 0, 2, 2, 2, 2, 0, 0, 2, 2, 3, 0, 0, 0, 0, 2, 2, 2, 2, 2, 2, 2, 2, 2, 2, 2, 2]
  | _ => []
def gtbl : List Cond := lw_tbl.filter goodWord
def gat (i : Nat) (w : Cond) : Bool := decide (lw_tbl[i]? = some w) && goodWord w
theorem gat_mem {i : Nat} {w : Cond} (h : gat i w = true) : w ∈ gtbl := by
  unfold gat at h
  simp only [Bool.and_eq_true, decide_eq_true_eq] at h
  exact List.mem_filter.mpr ⟨List.mem_of_getElem? h.1, h.2⟩
def nestW : List Cond := [.methodLinkNest "BellRibbons" 9 ⟨"BellRibbons$Tape", "<init>", "()V"⟩ "BellRibbons", .fieldLinkNest "BellRibbons" 148 "BellRibbons$Tape" "size" "I" "BellRibbons", .methodLinkNest "BellRibbons" 18 ⟨"BellRibbons$Ledger", "<init>", "()V"⟩ "BellRibbons", .fieldLinkNest "BellRibbons$Scale" 68 "BellRibbons$Ledger" "on" "[I" "BellRibbons", .fieldLinkNest "BellRibbons" 181 "BellRibbons$Ledger" "on" "[I" "BellRibbons", .fieldLinkNest "BellRibbons$Scale" 71 "BellRibbons$Ledger" "rodArm" "[I" "BellRibbons", .fieldLinkNest "BellRibbons" 184 "BellRibbons$Ledger" "rodArm" "[I" "BellRibbons", .fieldLinkNest "BellRibbons" 114 "BellRibbons$Ledger" "stiff" "[I" "BellRibbons", .fieldLinkNest "BellRibbons$Rush" 70 "BellRibbons$Ledger" "stiff" "[I" "BellRibbons", .fieldLinkNest "BellRibbons$Scale" 80 "BellRibbons$Ledger" "stiff" "[I" "BellRibbons", .fieldLinkNest "BellRibbons$Watcher" 33 "BellRibbons$Ledger" "seen" "[Z" "BellRibbons", .fieldLinkNest "BellRibbons" 118 "BellRibbons$Ledger" "seen" "[Z" "BellRibbons", .fieldLinkNest "BellRibbons$Scale" 77 "BellRibbons$Ledger" "seen" "[Z" "BellRibbons", .fieldLinkNest "BellRibbons$Law" 58 "BellRibbons$Ledger" "wet" "[Z" "BellRibbons", .fieldLinkNest "BellRibbons" 122 "BellRibbons$Ledger" "wet" "[Z" "BellRibbons", .fieldLinkNest "BellRibbons$Law" 39 "BellRibbons$Ledger" "rod" "[I" "BellRibbons", .fieldLinkNest "BellRibbons$Scale" 38 "BellRibbons$Ledger" "rod" "[I" "BellRibbons", .fieldLinkNest "BellRibbons$Leveller" 93 "BellRibbons$Ledger" "rod" "[I" "BellRibbons", .fieldLinkNest "BellRibbons$Watcher" 143 "BellRibbons$Ledger" "rod" "[I" "BellRibbons", .fieldLinkNest "BellRibbons" 197 "BellRibbons$Ledger" "rod" "[I" "BellRibbons", .fieldLinkNest "BellRibbons$Payments" 155 "BellRibbons$Ledger" "rod" "[I" "BellRibbons", .fieldLinkNest "BellRibbons$Law" 42 "BellRibbons$Ledger" "arm" "[I" "BellRibbons", .fieldLinkNest "BellRibbons$Scale" 62 "BellRibbons$Ledger" "arm" "[I" "BellRibbons", .fieldLinkNest "BellRibbons$Leveller" 96 "BellRibbons$Ledger" "arm" "[I" "BellRibbons", .fieldLinkNest "BellRibbons$Watcher" 146 "BellRibbons$Ledger" "arm" "[I" "BellRibbons", .fieldLinkNest "BellRibbons" 200 "BellRibbons$Ledger" "arm" "[I" "BellRibbons", .fieldLinkNest "BellRibbons$Payments" 158 "BellRibbons$Ledger" "arm" "[I" "BellRibbons", .fieldLinkNest "BellRibbons$Scale" 49 "BellRibbons$Ledger" "length" "[I" "BellRibbons", .fieldLinkNest "BellRibbons$Rush" 61 "BellRibbons$Ledger" "length" "[I" "BellRibbons", .fieldLinkNest "BellRibbons$Debts" 63 "BellRibbons$Ledger" "length" "[I" "BellRibbons", .fieldLinkNest "BellRibbons$Payments" 96 "BellRibbons$Ledger" "length" "[I" "BellRibbons", .fieldLinkNest "BellRibbons$Watcher" 76 "BellRibbons$Ledger" "length" "[I" "BellRibbons", .fieldLinkNest "BellRibbons$Leveller" 120 "BellRibbons$Ledger" "length" "[I" "BellRibbons", .fieldLinkNest "BellRibbons" 190 "BellRibbons$Ledger" "length" "[I" "BellRibbons", .fieldLinkNest "BellRibbons$Law" 52 "BellRibbons$Ledger" "colour" "[I" "BellRibbons", .fieldLinkNest "BellRibbons" 203 "BellRibbons$Ledger" "colour" "[I" "BellRibbons", .fieldLinkNest "BellRibbons$Law" 55 "BellRibbons$Ledger" "owner" "[I" "BellRibbons", .fieldLinkNest "BellRibbons$Debts" 49 "BellRibbons$Ledger" "owner" "[I" "BellRibbons", .fieldLinkNest "BellRibbons" 206 "BellRibbons$Ledger" "owner" "[I" "BellRibbons", .fieldLinkNest "BellRibbons$Debts" 52 "BellRibbons$Ledger" "to" "[I" "BellRibbons", .fieldLinkNest "BellRibbons" 209 "BellRibbons$Ledger" "to" "[I" "BellRibbons", .fieldLinkNest "BellRibbons$Scale" 41 "BellRibbons$Ledger" "hangs" "[Z" "BellRibbons", .fieldLinkNest "BellRibbons$Watcher" 63 "BellRibbons$Ledger" "hangs" "[Z" "BellRibbons", .fieldLinkNest "BellRibbons$Debts" 55 "BellRibbons$Ledger" "hangs" "[Z" "BellRibbons", .fieldLinkNest "BellRibbons" 212 "BellRibbons$Ledger" "hangs" "[Z" "BellRibbons", .fieldLinkNest "BellRibbons$Watcher" 27 "BellRibbons$Ledger" "rods" "I" "BellRibbons", .fieldLinkNest "BellRibbons" 107 "BellRibbons$Ledger" "rods" "I" "BellRibbons", .fieldLinkNest "BellRibbons$Scale" 65 "BellRibbons$Ledger" "rods" "I" "BellRibbons", .fieldLinkNest "BellRibbons$Scale" 32 "BellRibbons$Ledger" "ribbons" "I" "BellRibbons", .fieldLinkNest "BellRibbons$Payments" 65 "BellRibbons$Ledger" "ribbons" "I" "BellRibbons", .fieldLinkNest "BellRibbons$Watcher" 60 "BellRibbons$Ledger" "ribbons" "I" "BellRibbons", .fieldLinkNest "BellRibbons$Rush" 54 "BellRibbons$Ledger" "ribbons" "I" "BellRibbons", .fieldLinkNest "BellRibbons$Debts" 44 "BellRibbons$Ledger" "ribbons" "I" "BellRibbons", .fieldLinkNest "BellRibbons" 354 "BellRibbons$Ledger" "ribbons" "I" "BellRibbons", .fieldLinkNest "BellRibbons$Payments" 50 "BellRibbons$Ledger" "wind" "I" "BellRibbons", .fieldLinkNest "BellRibbons$Watcher" 47 "BellRibbons$Ledger" "wind" "I" "BellRibbons", .fieldLinkNest "BellRibbons$Rush" 42 "BellRibbons$Ledger" "wind" "I" "BellRibbons", .fieldLinkNest "BellRibbons$Leveller" 81 "BellRibbons$Ledger" "wind" "I" "BellRibbons", .fieldLinkNest "BellRibbons" 137 "BellRibbons$Ledger" "wind" "I" "BellRibbons", .fieldLinkNest "BellRibbons" 96 "BellRibbons$Ledger" "x" "I" "BellRibbons", .methodLinkNest "BellRibbons" 28 ⟨"BellRibbons$Law", "<init>", "()V"⟩ "BellRibbons", .fieldLinkNest "BellRibbons$LawReader" 56 "BellRibbons$Law" "clauses" "I" "BellRibbons", .fieldLinkNest "BellRibbons" 165 "BellRibbons$Law" "clauses" "I" "BellRibbons", .methodLinkNest "BellRibbons$LawReader" 11 ⟨"BellRibbons$Law", "<init>", "()V"⟩ "BellRibbons", .fieldLinkNest "BellRibbons" 158 "BellRibbons$LawReader" "draft" "LBellRibbons$Law;" "BellRibbons", .fieldLinkNest "BellRibbons$Leveller" 99 "BellRibbons$Scale" "heavy" "[I" "BellRibbons", .fieldLinkNest "BellRibbons$Watcher" 88 "BellRibbons$Scale" "heavy" "[I" "BellRibbons", .fieldLinkNest "BellRibbons$Payments" 149 "BellRibbons$Scale" "heavy" "[I" "BellRibbons", .fieldLinkNest "BellRibbons$Leveller" 101 "BellRibbons$Scale" "push" "[I" "BellRibbons", .fieldLinkNest "BellRibbons$Watcher" 91 "BellRibbons$Scale" "push" "[I" "BellRibbons", .fieldLinkNest "BellRibbons$Payments" 152 "BellRibbons$Scale" "push" "[I" "BellRibbons", .fieldLinkNest "BellRibbons" 172 "BellRibbons$Scale" "load" "[I" "BellRibbons", .fieldLinkNest "BellRibbons$Rush" 67 "BellRibbons$Scale" "moment" "[I" "BellRibbons", .fieldLinkNest "BellRibbons" 175 "BellRibbons$Scale" "moment" "[I" "BellRibbons", .fieldLinkNest "BellRibbons" 230 "BellRibbons$Payments" "first" "I" "BellRibbons", .fieldLinkNest "BellRibbons" 233 "BellRibbons$Payments" "second" "I" "BellRibbons", .fieldLinkNest "BellRibbons" 239 "BellRibbons$Payments" "others" "I" "BellRibbons", .fieldLinkNest "BellRibbons" 251 "BellRibbons$Leveller" "best" "[I" "BellRibbons", .fieldLinkNest "BellRibbons" 254 "BellRibbons$Leveller" "least" "I" "BellRibbons", .fieldLinkNest "BellRibbons" 286 "BellRibbons$Watcher" "gustWind" "I" "BellRibbons", .fieldLinkNest "BellRibbons" 289 "BellRibbons$Watcher" "gustCrowd" "I" "BellRibbons", .fieldLinkNest "BellRibbons" 308 "BellRibbons$Debts" "best" "[I" "BellRibbons", .fieldLinkNest "BellRibbons" 305 "BellRibbons$Debts" "people" "I" "BellRibbons", .fieldLinkNest "BellRibbons" 302 "BellRibbons$Debts" "cut" "I" "BellRibbons", .fieldLinkNest "BellRibbons" 319 "BellRibbons$Rush" "served" "I" "BellRibbons", .fieldLinkNest "BellRibbons" 322 "BellRibbons$Rush" "got" "I" "BellRibbons", .methodLinkNest "BellRibbons$Law" 95 ⟨"BellRibbons", "within", "(III)Z"⟩ "BellRibbons", .methodLinkNest "BellRibbons$Scale" 83 ⟨"BellRibbons", "leanOf", "(II)I"⟩ "BellRibbons", .methodLinkNest "BellRibbons$Leveller" 75 ⟨"BellRibbons", "reaches", "(I)Z"⟩ "BellRibbons", .methodLinkNest "BellRibbons$Watcher" 43 ⟨"BellRibbons", "reaches", "(I)Z"⟩ "BellRibbons", .methodLinkNest "BellRibbons$Tape" 23 ⟨"BellRibbons", "within", "(III)Z"⟩ "BellRibbons", .methodLinkNest "BellRibbons$Debts" 59 ⟨"BellRibbons", "areTwo", "(II)Z"⟩ "BellRibbons", .methodLinkNest "BellRibbons$Rush" 38 ⟨"BellRibbons", "isPerson", "(I)Z"⟩ "BellRibbons", .methodLinkNest "BellRibbons$Rush" 73 ⟨"BellRibbons", "leanOf", "(II)I"⟩ "BellRibbons"]
theorem nestW_in : ∀ w ∈ nestW, w ∈ lw_tbl := by decide +kernel
theorem nestW_ok : ∀ w ∈ nestW, w.onTables = true := by decide +kernel
/-- what the tables say of a method: its code's word, its kind, its descriptor -/
def mokB (M : MI) (i1 i2 i3 i4 : Nat) : Bool :=
  gat i1 (.code M.yn M.cd M.ml M.rt) && gat i2 (.initialized M.yn.cls) && (if (inf M).2.2.2.1 = 0 then gat i3 (.static M.yn) else gat i3 (.instanceMethod M.yn)) && (if (inf M).2.2.2.1 = 1 then gat i4 (.selects M.yn.cls M.yn M.yn) else true)
  && plainName M.yn.cls && decide (M.yn.cls ≠ "java/lang/invoke/MethodHandle") && decide (M.yn.cls ≠ "java/lang/invoke/VarHandle") && decide ((parseMethodDescriptor M.yn.desc).map (fun d => d.parameters.length) = some ((inf M).2.2.1 - (if (inf M).2.2.2.1 = 0 then 0 else 1)))
  && decide (M.ml ≤ 40) && decide (cn M.1 = M.yn.cls) && decide ((inf M).2.2.2.1 = 2 → M.yn.name = "<init>") && decide ((inf M).2.2.2.1 ≤ 2) && decide ((inf M).2.2.2.1 ≠ 0 → M.1 < 12 ∧ 1 ≤ (inf M).2.2.1) && decide ((inf M).2.1 = (match M.rt with | none => 0 | some .int => 1 | some .long => 2 | some .boolean => 3 | _ => 9))
def mokD (M : MI) : Prop := ∃ i1 i2 i3 i4, mokB M i1 i2 i3 i4 = true
end
section
theorem kX0_init : mokD mX0_init := ⟨500, 114, 499, 0, by decide +kernel⟩
theorem kX0_findBest : mokD mX0_findBest := ⟨1104, 114, 1102, 1103, by decide +kernel⟩
theorem kX0_addUp : mokD mX0_addUp := ⟨1108, 114, 1107, 35, by decide +kernel⟩
theorem kX0_goOn : mokD mX0_goOn := ⟨1114, 114, 1113, 36, by decide +kernel⟩
theorem kX0_compare : mokD mX0_compare := ⟨1119, 114, 1118, 37, by decide +kernel⟩
theorem kX0_cutAll : mokD mX0_cutAll := ⟨1128, 114, 1126, 1127, by decide +kernel⟩
theorem kX0_cutRing : mokD mX0_cutRing := ⟨1133, 114, 1132, 38, by decide +kernel⟩
theorem kX1_init : mokD mX1_init := ⟨260, 108, 259, 0, by decide +kernel⟩
theorem kX1_look : mokD mX1_look := ⟨778, 108, 776, 777, by decide +kernel⟩
theorem kX1_lookAt : mokD mX1_lookAt := ⟨786, 108, 784, 785, by decide +kernel⟩
theorem kX1_factOf : mokD mX1_factOf := ⟨728, 108, 727, 0, by decide +kernel⟩
theorem kX1_ask : mokD mX1_ask := ⟨791, 108, 789, 790, by decide +kernel⟩
theorem kX1_reckon : mokD mX1_reckon := ⟨795, 108, 794, 13, by decide +kernel⟩
theorem kX1_put : mokD mX1_put := ⟨802, 108, 801, 14, by decide +kernel⟩
theorem kX1_combine : mokD mX1_combine := ⟨811, 108, 810, 16, by decide +kernel⟩
theorem kX1_compare : mokD mX1_compare := ⟨807, 108, 806, 15, by decide +kernel⟩
theorem kX1_forget : mokD mX1_forget := ⟨674, 108, 672, 673, by decide +kernel⟩
theorem kX1_startClause : mokD mX1_startClause := ⟨694, 108, 692, 693, by decide +kernel⟩
theorem kX1_startCondition : mokD mX1_startCondition := ⟨732, 108, 730, 731, by decide +kernel⟩
theorem kX1_emit : mokD mX1_emit := ⟨725, 108, 723, 724, by decide +kernel⟩
theorem kX1_emitJump : mokD mX1_emitJump := ⟨749, 108, 747, 748, by decide +kernel⟩
theorem kX1_aimHere : mokD mX1_aimHere := ⟨753, 108, 751, 752, by decide +kernel⟩
theorem kX1_copyFrom : mokD mX1_copyFrom := ⟨761, 108, 759, 760, by decide +kernel⟩
theorem kX2_init : mokD mX2_init := ⟨305, 109, 304, 0, by decide +kernel⟩
theorem kX2_read : mokD mX2_read := ⟨670, 109, 668, 669, by decide +kernel⟩
theorem kX2_next : mokD mX2_next := ⟨682, 109, 681, 2, by decide +kernel⟩
theorem kX2_fail : mokD mX2_fail := ⟨690, 109, 689, 3, by decide +kernel⟩
theorem kX2_take : mokD mX2_take := ⟨714, 109, 713, 8, by decide +kernel⟩
theorem kX2_open : mokD mX2_open := ⟨710, 109, 709, 7, by decide +kernel⟩
theorem kX2_readClause : mokD mX2_readClause := ⟨678, 109, 677, 1, by decide +kernel⟩
theorem kX2_readCondition : mokD mX2_readCondition := ⟨737, 109, 736, 10, by decide +kernel⟩
theorem kX2_readPart : mokD mX2_readPart := ⟨741, 109, 740, 11, by decide +kernel⟩
theorem kX2_readPiece : mokD mX2_readPiece := ⟨745, 109, 744, 12, by decide +kernel⟩
theorem kX2_readSum : mokD mX2_readSum := ⟨698, 109, 697, 4, by decide +kernel⟩
theorem kX2_readTerm : mokD mX2_readTerm := ⟨702, 109, 701, 5, by decide +kernel⟩
theorem kX2_readFactor : mokD mX2_readFactor := ⟨706, 109, 705, 6, by decide +kernel⟩
theorem kX2_readNumber : mokD mX2_readNumber := ⟨721, 109, 720, 9, by decide +kernel⟩
theorem kX2_isDigit : mokD mX2_isDigit := ⟨717, 109, 716, 0, by decide +kernel⟩
theorem kX3_init : mokD mX3_init := ⟨147, 107, 146, 0, by decide +kernel⟩
theorem kX3_addRod : mokD mX3_addRod := ⟨561, 107, 559, 560, by decide +kernel⟩
theorem kX3_addRibbon : mokD mX3_addRibbon := ⟨639, 107, 637, 638, by decide +kernel⟩
theorem kX3_hasRod : mokD mX3_hasRod := ⟨606, 107, 604, 605, by decide +kernel⟩
theorem kX3_hasRibbon : mokD mX3_hasRibbon := ⟨782, 107, 780, 781, by decide +kernel⟩
theorem kX3_isHanging : mokD mX3_isHanging := ⟨846, 107, 844, 845, by decide +kernel⟩
theorem kX3_isWhiteOf : mokD mX3_isWhiteOf := ⟨881, 107, 879, 880, by decide +kernel⟩
theorem kX3_isDebt : mokD mX3_isDebt := ⟨1096, 107, 1094, 1095, by decide +kernel⟩
theorem kX3_hanging : mokD mX3_hanging := ⟨1233, 107, 1231, 1232, by decide +kernel⟩
theorem kX3_seenRods : mokD mX3_seenRods := ⟨968, 107, 966, 967, by decide +kernel⟩
theorem kX3_balanceOf : mokD mX3_balanceOf := ⟨838, 107, 836, 837, by decide +kernel⟩
theorem kX3_debt : mokD mX3_debt := ⟨1092, 107, 1090, 1091, by decide +kernel⟩
theorem kX3_cutDebt : mokD mX3_cutDebt := ⟨1137, 107, 1135, 1136, by decide +kernel⟩
theorem kX3_copyFrom : mokD mX3_copyFrom := ⟨1228, 107, 1226, 1227, by decide +kernel⟩
theorem kX4_init : mokD mX4_init := ⟨415, 112, 414, 0, by decide +kernel⟩
theorem kX4_read : mokD mX4_read := ⟨916, 112, 914, 915, by decide +kernel⟩
theorem kX4_isTwice : mokD mX4_isTwice := ⟨926, 112, 925, 23, by decide +kernel⟩
theorem kX4_search : mokD mX4_search := ⟨930, 112, 928, 929, by decide +kernel⟩
theorem kX4_weighAtPlaces : mokD mX4_weighAtPlaces := ⟨937, 112, 936, 24, by decide +kernel⟩
theorem kX4_hangFrom : mokD mX4_hangFrom := ⟨944, 112, 943, 25, by decide +kernel⟩
theorem kX4_compare : mokD mX4_compare := ⟨948, 112, 947, 26, by decide +kernel⟩
theorem kX4_hang : mokD mX4_hang := ⟨960, 112, 958, 959, by decide +kernel⟩
theorem kX5_init : mokD mX5_init := ⟨364, 111, 363, 0, by decide +kernel⟩
theorem kX5_findPayment : mokD mX5_findPayment := ⟨859, 111, 857, 858, by decide +kernel⟩
theorem kX5_tryKnots : mokD mX5_tryKnots := ⟨900, 111, 899, 22, by decide +kernel⟩
theorem kX5_carryOut : mokD mX5_carryOut := ⟨908, 111, 906, 907, by decide +kernel⟩
theorem kX5_findFraud : mokD mX5_findFraud := ⟨1065, 111, 1063, 1064, by decide +kernel⟩
theorem kX5_mostPayable : mokD mX5_mostPayable := ⟨1070, 111, 1069, 32, by decide +kernel⟩
theorem kX5_findUnseen : mokD mX5_findUnseen := ⟨1076, 111, 1075, 33, by decide +kernel⟩
theorem kX5_isUnseen : mokD mX5_isUnseen := ⟨1080, 111, 1079, 34, by decide +kernel⟩
theorem kX5_canCut : mokD mX5_canCut := ⟨877, 111, 876, 19, by decide +kernel⟩
theorem kX5_canKnot : mokD mX5_canKnot := ⟨885, 111, 884, 20, by decide +kernel⟩
theorem kX5_startDay : mokD mX5_startDay := ⟨863, 111, 862, 17, by decide +kernel⟩
theorem kX5_weighChanges : mokD mX5_weighChanges := ⟨873, 111, 872, 18, by decide +kernel⟩
theorem kX5_shift : mokD mX5_shift := ⟨891, 111, 890, 21, by decide +kernel⟩
theorem kX6_init : mokD mX6_init := ⟨529, 115, 528, 0, by decide +kernel⟩
theorem kX6_readPeople : mokD mX6_readPeople := ⟨1146, 115, 1144, 1145, by decide +kernel⟩
theorem kX6_weighPeople : mokD mX6_weighPeople := ⟨1156, 115, 1155, 39, by decide +kernel⟩
theorem kX6_isTipped : mokD mX6_isTipped := ⟨1166, 115, 1165, 40, by decide +kernel⟩
theorem kX6_happen : mokD mX6_happen := ⟨1152, 115, 1150, 1151, by decide +kernel⟩
theorem kX6_findBest : mokD mX6_findBest := ⟨1182, 115, 1180, 1181, by decide +kernel⟩
theorem kX6_bestFrom : mokD mX6_bestFrom := ⟨1186, 115, 1185, 41, by decide +kernel⟩
theorem kX6_hopeBy : mokD mX6_hopeBy := ⟨1190, 115, 1189, 42, by decide +kernel⟩
theorem kX6_hopeOf : mokD mX6_hopeOf := ⟨1194, 115, 1193, 43, by decide +kernel⟩
theorem kX6_most : mokD mX6_most := ⟨1199, 115, 1197, 1198, by decide +kernel⟩
theorem kX6_personAt : mokD mX6_personAt := ⟨1203, 115, 1201, 1202, by decide +kernel⟩
theorem kX6_nextPerson : mokD mX6_nextPerson := ⟨1207, 115, 1206, 44, by decide +kernel⟩
theorem kX7_init : mokD mX7_init := ⟨330, 110, 329, 0, by decide +kernel⟩
theorem kX7_weigh : mokD mX7_weigh := ⟨773, 110, 771, 772, by decide +kernel⟩
theorem kX7_shift : mokD mX7_shift := ⟨896, 110, 894, 895, by decide +kernel⟩
theorem kX7_wouldLean : mokD mX7_wouldLean := ⟨1003, 110, 1001, 1002, by decide +kernel⟩
end
section
theorem kX7_leanBeside : mokD mX7_leanBeside := ⟨987, 110, 985, 986, by decide +kernel⟩
theorem kX7_partOfMoment : mokD mX7_partOfMoment := ⟨1162, 110, 1160, 1161, by decide +kernel⟩
theorem kX7_lean : mokD mX7_lean := ⟨818, 110, 816, 817, by decide +kernel⟩
theorem kX7_isSeenToLean : mokD mX7_isSeenToLean := ⟨1220, 110, 1218, 1219, by decide +kernel⟩
theorem kX7_isPicture : mokD mX7_isPicture := ⟨1084, 110, 1082, 1083, by decide +kernel⟩
theorem kX7_picture : mokD mX7_picture := ⟨1046, 110, 1044, 1045, by decide +kernel⟩
theorem kX7_leansOtherThan : mokD mX7_leansOtherThan := ⟨904, 110, 902, 903, by decide +kernel⟩
theorem kX7_writeLeans : mokD mX7_writeLeans := ⟨868, 110, 866, 867, by decide +kernel⟩
theorem kX7_leansTogether : mokD mX7_leansTogether := ⟨952, 110, 950, 951, by decide +kernel⟩
theorem kX8_init : mokD mX8_init := ⟨132, 106, 131, 0, by decide +kernel⟩
theorem kX8_hasRoom : mokD mX8_hasRoom := ⟨658, 106, 656, 657, by decide +kernel⟩
theorem kX8_add : mokD mX8_add := ⟨662, 106, 660, 661, by decide +kernel⟩
theorem kX8_empty : mokD mX8_empty := ⟨757, 106, 755, 756, by decide +kernel⟩
theorem kX8_byteAt : mokD mX8_byteAt := ⟨686, 106, 684, 685, by decide +kernel⟩
theorem kX8_numberAt : mokD mX8_numberAt := ⟨1245, 106, 1243, 1244, by decide +kernel⟩
theorem kX8_allWithin : mokD mX8_allWithin := ⟨1021, 106, 1019, 1020, by decide +kernel⟩
theorem kX9_init : mokD mX9_init := ⟨461, 113, 460, 0, by decide +kernel⟩
theorem kX9_readPicture : mokD mX9_readPicture := ⟨972, 113, 970, 971, by decide +kernel⟩
theorem kX9_startWatch : mokD mX9_startWatch := ⟨982, 113, 981, 27, by decide +kernel⟩
theorem kX9_isInQuestion : mokD mX9_isInQuestion := ⟨992, 113, 991, 28, by decide +kernel⟩
theorem kX9_mayBe : mokD mX9_mayBe := ⟨997, 113, 996, 29, by decide +kernel⟩
theorem kX9_falseLengths : mokD mX9_falseLengths := ⟨978, 113, 976, 977, by decide +kernel⟩
theorem kX9_suspectBits : mokD mX9_suspectBits := ⟨1012, 113, 1010, 1011, by decide +kernel⟩
theorem kX9_collectCases : mokD mX9_collectCases := ⟨1027, 113, 1025, 1026, by decide +kernel⟩
theorem kX9_findGust : mokD mX9_findGust := ⟨1031, 113, 1029, 1030, by decide +kernel⟩
theorem kX9_crowdBy : mokD mX9_crowdBy := ⟨1037, 113, 1036, 30, by decide +kernel⟩
theorem kX9_pictureOf : mokD mX9_pictureOf := ⟨1041, 113, 1040, 31, by decide +kernel⟩
theorem kX9_sort : mokD mX9_sort := ⟨1051, 113, 1050, 0, by decide +kernel⟩
theorem kX9_longestStretch : mokD mX9_longestStretch := ⟨1055, 113, 1054, 0, by decide +kernel⟩
theorem kX10_init : mokD mX10_init := ⟨124, 105, 123, 0, by decide +kernel⟩
theorem kX10_rod : mokD mX10_rod := ⟨602, 105, 600, 601, by decide +kernel⟩
theorem kX10_stiff : mokD mX10_stiff := ⟨616, 105, 614, 615, by decide +kernel⟩
theorem kX10_seen : mokD mX10_seen := ⟨620, 105, 618, 619, by decide +kernel⟩
theorem kX10_wet : mokD mX10_wet := ⟨624, 105, 622, 623, by decide +kernel⟩
theorem kX10_white : mokD mX10_white := ⟨628, 105, 626, 627, by decide +kernel⟩
theorem kX10_red : mokD mX10_red := ⟨643, 105, 641, 642, by decide +kernel⟩
theorem kX10_wind : mokD mX10_wind := ⟨650, 105, 648, 649, by decide +kernel⟩
theorem kX10_feed : mokD mX10_feed := ⟨654, 105, 652, 653, by decide +kernel⟩
theorem kX10_law : mokD mX10_law := ⟨666, 105, 664, 665, by decide +kernel⟩
theorem kX10_rodIs : mokD mX10_rodIs := ⟨768, 105, 766, 767, by decide +kernel⟩
theorem kX10_ribbon : mokD mX10_ribbon := ⟨827, 105, 825, 826, by decide +kernel⟩
theorem kX10_balance : mokD mX10_balance := ⟨834, 105, 832, 833, by decide +kernel⟩
theorem kX10_move : mokD mX10_move := ⟨842, 105, 840, 841, by decide +kernel⟩
theorem kX10_fall : mokD mX10_fall := ⟨851, 105, 849, 850, by decide +kernel⟩
theorem kX10_pay : mokD mX10_pay := ⟨855, 105, 853, 854, by decide +kernel⟩
theorem kX10_level : mokD mX10_level := ⟨912, 105, 910, 911, by decide +kernel⟩
theorem kX10_falseBy : mokD mX10_falseBy := ⟨964, 105, 962, 963, by decide +kernel⟩
theorem kX10_suspects : mokD mX10_suspects := ⟨1007, 105, 1005, 1006, by decide +kernel⟩
theorem kX10_gust : mokD mX10_gust := ⟨1017, 105, 1015, 1016, by decide +kernel⟩
theorem kX10_fraud : mokD mX10_fraud := ⟨1061, 105, 1059, 1060, by decide +kernel⟩
theorem kX10_owes : mokD mX10_owes := ⟨1088, 105, 1086, 1087, by decide +kernel⟩
theorem kX10_ring : mokD mX10_ring := ⟨1100, 105, 1098, 1099, by decide +kernel⟩
theorem kX10_clear : mokD mX10_clear := ⟨1124, 105, 1122, 1123, by decide +kernel⟩
theorem kX10_run : mokD mX10_run := ⟨1142, 105, 1140, 1141, by decide +kernel⟩
theorem kX10_order : mokD mX10_order := ⟨1172, 105, 1170, 1171, by decide +kernel⟩
theorem kX10_seed : mokD mX10_seed := ⟨1211, 105, 1209, 1210, by decide +kernel⟩
theorem kX10_draw : mokD mX10_draw := ⟨1216, 105, 1214, 1215, by decide +kernel⟩
theorem kX10_keep : mokD mX10_keep := ⟨1224, 105, 1222, 1223, by decide +kernel⟩
theorem kX10_undo : mokD mX10_undo := ⟨1237, 105, 1235, 1236, by decide +kernel⟩
theorem kX10_check : mokD mX10_check := ⟨1241, 105, 1239, 1240, by decide +kernel⟩
theorem kX10_count : mokD mX10_count := ⟨1249, 105, 1247, 1248, by decide +kernel⟩
theorem kX10_mayHang : mokD mX10_mayHang := ⟨632, 105, 631, 0, by decide +kernel⟩
theorem kX10_within : mokD mX10_within := ⟨612, 105, 611, 0, by decide +kernel⟩
theorem kX10_reaches : mokD mX10_reaches := ⟨609, 105, 608, 0, by decide +kernel⟩
theorem kX10_isPerson : mokD mX10_isPerson := ⟨635, 105, 634, 0, by decide +kernel⟩
theorem kX10_areTwo : mokD mX10_areTwo := ⟨646, 105, 645, 0, by decide +kernel⟩
theorem kX10_leanOf : mokD mX10_leanOf := ⟨821, 105, 820, 0, by decide +kernel⟩
theorem kX11_init : mokD mX11_init := ⟨1254, 116, 1253, 0, by decide +kernel⟩
theorem kX11_lies : mokD mX11_lies := ⟨1523, 116, 1522, 0, by decide +kernel⟩
theorem kX11_has : mokD mX11_has := ⟨1867, 116, 1866, 0, by decide +kernel⟩
theorem kX11_isRod : mokD mX11_isRod := ⟨1520, 116, 1519, 45, by decide +kernel⟩
theorem kX11_isArm : mokD mX11_isArm := ⟨1526, 116, 1525, 0, by decide +kernel⟩
theorem kX11_isPerson : mokD mX11_isPerson := ⟨1553, 116, 1552, 0, by decide +kernel⟩
theorem kX11_isRibbon : mokD mX11_isRibbon := ⟨1709, 116, 1708, 74, by decide +kernel⟩
theorem kX11_rod : mokD mX11_rod := ⟨1516, 116, 1514, 1515, by decide +kernel⟩
theorem kX11_stiff : mokD mX11_stiff := ⟨1532, 116, 1530, 1531, by decide +kernel⟩
theorem kX11_seen : mokD mX11_seen := ⟨1537, 116, 1535, 1536, by decide +kernel⟩
theorem kX11_wet : mokD mX11_wet := ⟨1541, 116, 1539, 1540, by decide +kernel⟩
theorem kX11_adds : mokD mX11_adds := ⟨1549, 116, 1548, 46, by decide +kernel⟩
theorem kX11_white : mokD mX11_white := ⟨1545, 116, 1543, 1544, by decide +kernel⟩
theorem kX11_red : mokD mX11_red := ⟨1558, 116, 1556, 1557, by decide +kernel⟩
theorem kX11_wind : mokD mX11_wind := ⟨1562, 116, 1560, 1561, by decide +kernel⟩
theorem kX11_push : mokD mX11_push := ⟨1570, 116, 1569, 47, by decide +kernel⟩
theorem kX11_feed : mokD mX11_feed := ⟨1566, 116, 1564, 1565, by decide +kernel⟩
theorem kX11_byteAt : mokD mX11_byteAt := ⟨1757, 116, 1756, 80, by decide +kernel⟩
theorem kX11_here : mokD mX11_here := ⟨1587, 116, 1586, 50, by decide +kernel⟩
theorem kX11_wrongs : mokD mX11_wrongs := ⟨1591, 116, 1590, 51, by decide +kernel⟩
theorem kX11_isGood : mokD mX11_isGood := ⟨1579, 116, 1578, 48, by decide +kernel⟩
theorem kX11_emit : mokD mX11_emit := ⟨1621, 116, 1620, 58, by decide +kernel⟩
theorem kX11_top : mokD mX11_top := ⟨1642, 116, 1641, 61, by decide +kernel⟩
end
section
theorem kX11_puts : mokD mX11_puts := ⟨1607, 116, 1606, 55, by decide +kernel⟩
theorem kX11_opens : mokD mX11_opens := ⟨1603, 116, 1602, 54, by decide +kernel⟩
theorem kX11_seesDigit : mokD mX11_seesDigit := ⟨1611, 116, 1610, 56, by decide +kernel⟩
theorem kX11_reads : mokD mX11_reads := ⟨1617, 116, 1616, 57, by decide +kernel⟩
theorem kX11_isTimes : mokD mX11_isTimes := ⟨1631, 116, 1630, 0, by decide +kernel⟩
theorem kX11_isPlus : mokD mX11_isPlus := ⟨1634, 116, 1633, 0, by decide +kernel⟩
theorem kX11_isSign : mokD mX11_isSign := ⟨1653, 116, 1652, 0, by decide +kernel⟩
theorem kX11_isValue : mokD mX11_isValue := ⟨1624, 116, 1623, 0, by decide +kernel⟩
theorem kX11_sums : mokD mX11_sums := ⟨1638, 116, 1637, 60, by decide +kernel⟩
theorem kX11_joins : mokD mX11_joins := ⟨1665, 116, 1664, 66, by decide +kernel⟩
theorem kX11_ends : mokD mX11_ends := ⟨1657, 116, 1656, 64, by decide +kernel⟩
theorem kX11_factor : mokD mX11_factor := ⟨1599, 116, 1598, 53, by decide +kernel⟩
theorem kX11_stays : mokD mX11_stays := ⟨1628, 116, 1627, 59, by decide +kernel⟩
theorem kX11_value : mokD mX11_value := ⟨1595, 116, 1594, 52, by decide +kernel⟩
theorem kX11_pieceOfC : mokD mX11_pieceOfC := ⟨1650, 116, 1649, 63, by decide +kernel⟩
theorem kX11_goesBehind : mokD mX11_goesBehind := ⟨1661, 116, 1660, 65, by decide +kernel⟩
theorem kX11_condition : mokD mX11_condition := ⟨1646, 116, 1645, 62, by decide +kernel⟩
theorem kX11_clause : mokD mX11_clause := ⟨1583, 116, 1582, 49, by decide +kernel⟩
theorem kX11_law : mokD mX11_law := ⟨1574, 116, 1572, 1573, by decide +kernel⟩
theorem kX11_valueOf : mokD mX11_valueOf := ⟨1697, 116, 1696, 72, by decide +kernel⟩
theorem kX11_worked : mokD mX11_worked := ⟨1693, 116, 1692, 0, by decide +kernel⟩
theorem kX11_does : mokD mX11_does := ⟨1690, 116, 1689, 71, by decide +kernel⟩
theorem kX11_works : mokD mX11_works := ⟨1686, 116, 1685, 70, by decide +kernel⟩
theorem kX11_tells : mokD mX11_tells := ⟨1682, 116, 1681, 69, by decide +kernel⟩
theorem kX11_heavy : mokD mX11_heavy := ⟨1678, 116, 1677, 68, by decide +kernel⟩
theorem kX11_pushed : mokD mX11_pushed := ⟨1701, 116, 1700, 73, by decide +kernel⟩
theorem kX11_laysLeans : mokD mX11_laysLeans := ⟨1674, 116, 1673, 67, by decide +kernel⟩
theorem kX11_picture : mokD mX11_picture := ⟨1798, 116, 1797, 88, by decide +kernel⟩
theorem kX11_rodIs : mokD mX11_rodIs := ⟨1669, 116, 1667, 1668, by decide +kernel⟩
theorem kX11_ribbon : mokD mX11_ribbon := ⟨1705, 116, 1703, 1704, by decide +kernel⟩
theorem kX11_balance : mokD mX11_balance := ⟨1713, 116, 1711, 1712, by decide +kernel⟩
theorem kX11_move : mokD mX11_move := ⟨1717, 116, 1715, 1716, by decide +kernel⟩
theorem kX11_fall : mokD mX11_fall := ⟨1721, 116, 1719, 1720, by decide +kernel⟩
theorem kX11_isWhiteOf : mokD mX11_isWhiteOf := ⟨1736, 116, 1735, 76, by decide +kernel⟩
theorem kX11_canKnot : mokD mX11_canKnot := ⟨1732, 116, 1731, 75, by decide +kernel⟩
theorem kX11_knots : mokD mX11_knots := ⟨1744, 116, 1743, 78, by decide +kernel⟩
theorem kX11_othersBy : mokD mX11_othersBy := ⟨1740, 116, 1739, 77, by decide +kernel⟩
theorem kX11_pay : mokD mX11_pay := ⟨1725, 116, 1723, 1724, by decide +kernel⟩
theorem kX11_takesPlaces : mokD mX11_takesPlaces := ⟨1753, 116, 1752, 79, by decide +kernel⟩
theorem kX11_hangsBy : mokD mX11_hangsBy := ⟨1762, 116, 1761, 81, by decide +kernel⟩
theorem kX11_size : mokD mX11_size := ⟨1769, 116, 1768, 0, by decide +kernel⟩
theorem kX11_sumOfLeans : mokD mX11_sumOfLeans := ⟨1766, 116, 1765, 82, by decide +kernel⟩
theorem kX11_goesOn : mokD mX11_goesOn := ⟨1773, 116, 1772, 83, by decide +kernel⟩
theorem kX11_level : mokD mX11_level := ⟨1748, 116, 1746, 1747, by decide +kernel⟩
theorem kX11_seenMany : mokD mX11_seenMany := ⟨1781, 116, 1780, 84, by decide +kernel⟩
theorem kX11_toldPicture : mokD mX11_toldPicture := ⟨1785, 116, 1784, 85, by decide +kernel⟩
theorem kX11_canBe : mokD mX11_canBe := ⟨1794, 116, 1793, 87, by decide +kernel⟩
theorem kX11_lengthsOf : mokD mX11_lengthsOf := ⟨1790, 116, 1789, 86, by decide +kernel⟩
theorem kX11_falseBy : mokD mX11_falseBy := ⟨1777, 116, 1775, 1776, by decide +kernel⟩
theorem kX11_suspects : mokD mX11_suspects := ⟨1802, 116, 1800, 1801, by decide +kernel⟩
theorem kX11_laysFalse : mokD mX11_laysFalse := ⟨1811, 116, 1810, 89, by decide +kernel⟩
theorem kX11_mostAlike : mokD mX11_mostAlike := ⟨1815, 116, 1814, 90, by decide +kernel⟩
theorem kX11_gust : mokD mX11_gust := ⟨1807, 116, 1805, 1806, by decide +kernel⟩
theorem kX11_isUnseen : mokD mX11_isUnseen := ⟨1827, 116, 1826, 92, by decide +kernel⟩
theorem kX11_isFraud : mokD mX11_isFraud := ⟨1823, 116, 1822, 91, by decide +kernel⟩
theorem kX11_fraud : mokD mX11_fraud := ⟨1819, 116, 1817, 1818, by decide +kernel⟩
theorem kX11_laysDebts : mokD mX11_laysDebts := ⟨1835, 116, 1834, 93, by decide +kernel⟩
theorem kX11_owes : mokD mX11_owes := ⟨1831, 116, 1829, 1830, by decide +kernel⟩
theorem kX11_isOn : mokD mX11_isOn := ⟨1847, 116, 1846, 95, by decide +kernel⟩
theorem kX11_looksAt : mokD mX11_looksAt := ⟨1851, 116, 1850, 96, by decide +kernel⟩
theorem kX11_findsRing : mokD mX11_findsRing := ⟨1843, 116, 1842, 94, by decide +kernel⟩
theorem kX11_ring : mokD mX11_ring := ⟨1839, 116, 1837, 1838, by decide +kernel⟩
theorem kX11_cuts : mokD mX11_cuts := ⟨1859, 116, 1858, 97, by decide +kernel⟩
theorem kX11_clear : mokD mX11_clear := ⟨1855, 116, 1853, 1854, by decide +kernel⟩
theorem kX11_isTipped : mokD mX11_isTipped := ⟨1871, 116, 1870, 98, by decide +kernel⟩
theorem kX11_whiteOf : mokD mX11_whiteOf := ⟨1875, 116, 1874, 99, by decide +kernel⟩
theorem kX11_run : mokD mX11_run := ⟨1863, 116, 1861, 1862, by decide +kernel⟩
theorem kX11_getsBy : mokD mX11_getsBy := ⟨1887, 116, 1886, 100, by decide +kernel⟩
theorem kX11_sizeOf : mokD mX11_sizeOf := ⟨1883, 116, 1882, 0, by decide +kernel⟩
theorem kX11_order : mokD mX11_order := ⟨1879, 116, 1877, 1878, by decide +kernel⟩
theorem kX11_seed : mokD mX11_seed := ⟨1891, 116, 1889, 1890, by decide +kernel⟩
theorem kX11_someLeans : mokD mX11_someLeans := ⟨1902, 116, 1901, 101, by decide +kernel⟩
theorem kX11_draw : mokD mX11_draw := ⟨1896, 116, 1894, 1895, by decide +kernel⟩
theorem kX11_hanging : mokD mX11_hanging := ⟨1910, 116, 1909, 102, by decide +kernel⟩
theorem kX11_keep : mokD mX11_keep := ⟨1906, 116, 1904, 1905, by decide +kernel⟩
theorem kX11_undo : mokD mX11_undo := ⟨1914, 116, 1912, 1913, by decide +kernel⟩
theorem kX11_numberAt : mokD mX11_numberAt := ⟨1922, 116, 1921, 103, by decide +kernel⟩
theorem kX11_check : mokD mX11_check := ⟨1918, 116, 1916, 1917, by decide +kernel⟩
theorem kX11_count : mokD mX11_count := ⟨1926, 116, 1924, 1925, by decide +kernel⟩
theorem kJ6_bitCount_0f7a4 : mokD mJ6_bitCount_0f7a4 := ⟨1175, 119, 1174, 0, by decide +kernel⟩
end
section
/-- field links: own, index, kind of the cell, field, its kind -/
def fTab : List (Nat × Nat × Nat × Nat × Nat × Nat × Nat) := [(0, 11, 0, 1, 2, 0, 504), (0, 16, 0, 2, 2, 0, 505), (0, 20, 0, 3, 2, 0, 506), (0, 23, 0, 0, 2, 0, 503), (0, 30, 0, 4, 0, 0, 508), (0, 34, 0, 5, 0, 0, 510), (0, 44, 3, 13, 0, 1, 52), (0, 49, 3, 9, 2, 1, 37), (0, 52, 3, 10, 2, 1, 39), (0, 55, 3, 11, 2, 1, 43), (0, 63, 3, 7, 2, 1, 29), (1, 11, 1, 0, 2, 0, 262), (1, 15, 1, 1, 2, 0, 263), (1, 18, 1, 2, 2, 0, 264), (1, 21, 1, 3, 2, 0, 265), (1, 24, 1, 4, 2, 0, 266), (1, 27, 1, 5, 2, 0, 267), (1, 30, 1, 6, 2, 0, 268), (1, 39, 3, 5, 2, 1, 15), (1, 42, 3, 6, 2, 1, 21), (1, 52, 3, 8, 2, 1, 34), (1, 55, 3, 9, 2, 1, 36), (1, 58, 3, 4, 2, 1, 13), (1, 62, 1, 8, 0, 0, 270), (1, 70, 1, 10, 3, 0, 274), (1, 74, 1, 11, 3, 0, 275), (1, 77, 1, 9, 0, 0, 273), (1, 89, 1, 7, 0, 0, 269), (2, 12, 2, 0, 2, 0, 309), (2, 18, 2, 1, 2, 0, 311), (2, 22, 2, 2, 0, 0, 312), (2, 26, 2, 3, 0, 0, 313), (2, 29, 2, 4, 0, 0, 314), (2, 56, 1, 8, 0, 1, 61), (3, 9, 3, 0, 2, 0, 149), (3, 15, 3, 1, 2, 0, 152), (3, 18, 3, 2, 2, 0, 155), (3, 21, 3, 3, 2, 0, 159), (3, 25, 3, 4, 2, 0, 163), (3, 28, 3, 5, 2, 0, 166), (3, 31, 3, 6, 2, 0, 173), (3, 34, 3, 7, 2, 0, 180), (3, 37, 3, 8, 2, 0, 188), (3, 40, 3, 9, 2, 0, 191), (3, 43, 3, 10, 2, 0, 195), (3, 46, 3, 11, 2, 0, 198), (3, 49, 3, 12, 0, 0, 203), (3, 53, 3, 13, 0, 0, 209), (3, 76, 3, 14, 0, 0, 219), (3, 79, 3, 15, 0, 0, 221), (4, 9, 4, 3, 2, 0, 421), (4, 15, 4, 4, 2, 0, 422), (4, 18, 4, 5, 2, 0, 423), (4, 23, 4, 6, 2, 0, 424), (4, 26, 4, 7, 2, 0, 425), (4, 29, 4, 8, 2, 0, 426), (4, 32, 4, 9, 2, 0, 427), (4, 35, 4, 0, 2, 0, 418), (4, 39, 4, 1, 2, 0, 419), (4, 43, 4, 2, 2, 0, 420), (4, 56, 4, 10, 0, 0, 429), (4, 81, 3, 14, 0, 1, 57), (4, 93, 3, 5, 2, 1, 17), (4, 96, 3, 6, 2, 1, 23), (4, 99, 7, 2, 2, 1, 65), (4, 101, 7, 3, 2, 1, 68), (4, 113, 4, 11, 0, 0, 430), (4, 120, 3, 7, 2, 1, 32), (5, 11, 5, 2, 2, 0, 373), (5, 17, 5, 3, 2, 0, 374), (5, 23, 5, 4, 2, 0, 375), (5, 26, 5, 5, 2, 0, 376), (5, 29, 5, 6, 2, 0, 377), (5, 32, 5, 0, 2, 0, 371), (5, 36, 5, 1, 2, 0, 372), (5, 43, 5, 7, 0, 0, 378), (5, 47, 5, 8, 0, 0, 379), (5, 50, 3, 14, 0, 1, 54), (5, 62, 5, 11, 0, 0, 384), (5, 65, 3, 13, 0, 1, 49), (5, 86, 5, 9, 0, 0, 380), (5, 89, 5, 10, 0, 0, 382), (5, 96, 3, 7, 2, 1, 30), (5, 149, 7, 2, 2, 1, 67), (5, 152, 7, 3, 2, 1, 70), (5, 155, 3, 5, 2, 1, 20), (5, 158, 3, 6, 2, 1, 26), (6, 9, 6, 2, 2, 0, 533), (6, 15, 6, 3, 2, 0, 534), (6, 18, 6, 4, 2, 0, 535), (6, 21, 6, 5, 2, 0, 536), (6, 24, 6, 0, 2, 0, 531), (6, 28, 6, 1, 2, 0, 532), (6, 42, 3, 14, 0, 1, 56), (6, 54, 3, 13, 0, 1, 51), (6, 61, 3, 7, 2, 1, 28), (6, 67, 7, 5, 2, 1, 72), (6, 70, 3, 2, 2, 1, 8), (6, 85, 6, 6, 0, 0, 537), (6, 88, 6, 7, 0, 0, 539), (7, 9, 7, 2, 2, 0, 334), (7, 15, 7, 3, 2, 0, 338), (7, 18, 7, 4, 2, 0, 342), (7, 21, 7, 5, 2, 0, 344), (7, 24, 7, 0, 2, 0, 332), (7, 28, 7, 1, 2, 0, 333), (7, 32, 3, 13, 0, 1, 48), (7, 38, 3, 5, 2, 1, 16), (7, 41, 3, 11, 2, 1, 41), (7, 49, 3, 7, 2, 1, 27), (7, 62, 3, 6, 2, 1, 22), (7, 65, 3, 12, 0, 1, 47), (7, 68, 3, 0, 2, 1, 3), (7, 71, 3, 1, 2, 1, 5), (7, 77, 3, 3, 2, 1, 12), (7, 80, 3, 2, 2, 1, 9), (8, 11, 8, 0, 2, 0, 134), (8, 15, 8, 1, 0, 0, 135), (9, 9, 9, 3, 2, 0, 466), (9, 15, 9, 0, 2, 0, 463), (9, 19, 9, 1, 2, 0, 464), (9, 23, 9, 2, 2, 0, 465), (9, 27, 3, 12, 0, 1, 45), (9, 33, 3, 3, 2, 1, 10), (9, 47, 3, 14, 0, 1, 55), (9, 56, 9, 7, 1, 0, 470), (9, 60, 3, 13, 0, 1, 50), (9, 63, 3, 11, 2, 1, 42), (9, 76, 3, 7, 2, 1, 31), (9, 88, 7, 2, 2, 1, 66), (9, 91, 7, 3, 2, 1, 69), (9, 105, 9, 4, 2, 0, 467), (9, 108, 9, 6, 0, 0, 469), (9, 118, 9, 9, 0, 0, 473), (9, 124, 9, 8, 0, 0, 471), (9, 127, 9, 5, 2, 0, 468), (9, 143, 3, 5, 2, 1, 18), (9, 146, 3, 6, 2, 1, 24), (10, 10, 10, 0, 2, 0, 562), (10, 19, 10, 1, 2, 0, 563), (10, 23, 10, 2, 2, 0, 564), (10, 29, 10, 3, 2, 0, 565), (10, 38, 10, 4, 2, 0, 566), (10, 47, 10, 5, 2, 0, 567), (10, 54, 10, 6, 2, 0, 568), (10, 63, 10, 7, 2, 0, 569), (10, 70, 10, 8, 2, 0, 570), (10, 79, 10, 9, 2, 0, 571), (10, 88, 10, 10, 2, 0, 572), (10, 96, 3, 15, 0, 1, 59), (10, 107, 3, 12, 0, 1, 46), (10, 114, 3, 2, 2, 1, 7), (10, 118, 3, 3, 2, 1, 11), (10, 122, 3, 4, 2, 1, 14), (10, 137, 3, 14, 0, 1, 58), (10, 148, 8, 1, 0, 1, 1), (10, 158, 2, 0, 2, 1, 64), (10, 165, 1, 8, 0, 1, 62), (10, 172, 7, 4, 2, 1, 71), (10, 175, 7, 5, 2, 1, 73), (10, 181, 3, 0, 2, 1, 4), (10, 184, 3, 1, 2, 1, 6), (10, 190, 3, 7, 2, 1, 33), (10, 197, 3, 5, 2, 1, 19), (10, 200, 3, 6, 2, 1, 25), (10, 203, 3, 8, 2, 1, 35), (10, 206, 3, 9, 2, 1, 38), (10, 209, 3, 10, 2, 1, 40), (10, 212, 3, 11, 2, 1, 44), (10, 230, 5, 9, 0, 1, 74), (10, 233, 5, 10, 0, 1, 75), (10, 239, 5, 11, 0, 1, 76), (10, 251, 4, 9, 2, 1, 77), (10, 254, 4, 11, 0, 1, 78), (10, 286, 9, 8, 0, 1, 79), (10, 289, 9, 9, 0, 1, 80), (10, 302, 0, 5, 0, 1, 83), (10, 305, 0, 4, 0, 1, 82), (10, 308, 0, 3, 2, 1, 81), (10, 319, 6, 6, 0, 1, 84), (10, 322, 6, 7, 0, 1, 85), (10, 344, 10, 11, 3, 0, 573), (10, 354, 3, 13, 0, 1, 53), (11, 7, 11, 0, 2, 0, 1256), (11, 13, 11, 2, 0, 0, 1258), (11, 17, 11, 5, 0, 0, 1261), (11, 20, 11, 6, 2, 0, 1262), (11, 24, 11, 7, 2, 0, 1263), (11, 27, 11, 8, 2, 0, 1264), (11, 30, 11, 9, 2, 0, 1265), (11, 34, 11, 10, 2, 0, 1266), (11, 37, 11, 11, 2, 0, 1267), (11, 40, 11, 12, 2, 0, 1268), (11, 43, 11, 13, 2, 0, 1269), (11, 46, 11, 14, 2, 0, 1270), (11, 49, 11, 15, 2, 0, 1271), (11, 52, 11, 16, 2, 0, 1272), (11, 55, 11, 17, 2, 0, 1273), (11, 58, 11, 19, 2, 0, 1275), (11, 61, 11, 20, 2, 0, 1276), (11, 64, 11, 21, 2, 0, 1277), (11, 67, 11, 22, 2, 0, 1278), (11, 70, 11, 23, 2, 0, 1279), (11, 73, 11, 24, 2, 0, 1280), (11, 76, 11, 25, 2, 0, 1281), (11, 79, 11, 26, 2, 0, 1282), (11, 82, 11, 27, 2, 0, 1283), (11, 85, 11, 28, 2, 0, 1284), (11, 88, 11, 29, 2, 0, 1285), (11, 91, 11, 30, 2, 0, 1286), (11, 94, 11, 40, 2, 0, 1296), (11, 97, 11, 42, 2, 0, 1298), (11, 100, 11, 43, 2, 0, 1299), (11, 103, 11, 44, 2, 0, 1300), (11, 106, 11, 45, 2, 0, 1301), (11, 109, 11, 46, 2, 0, 1302), (11, 112, 11, 47, 2, 0, 1303), (11, 115, 11, 48, 2, 0, 1304), (11, 118, 11, 49, 2, 0, 1305), (11, 121, 11, 50, 2, 0, 1306), (11, 124, 11, 51, 2, 0, 1307), (11, 127, 11, 52, 2, 0, 1308), (11, 130, 11, 53, 2, 0, 1309), (11, 133, 11, 54, 2, 0, 1310), (11, 136, 11, 55, 2, 0, 1311), (11, 139, 11, 56, 2, 0, 1312), (11, 142, 11, 57, 2, 0, 1313), (11, 146, 11, 58, 2, 0, 1314), (11, 149, 11, 60, 2, 0, 1316), (11, 152, 11, 61, 2, 0, 1317), (11, 155, 11, 62, 2, 0, 1318), (11, 158, 11, 63, 2, 0, 1319), (11, 161, 11, 66, 2, 0, 1322), (11, 164, 11, 67, 2, 0, 1323), (11, 167, 11, 73, 2, 0, 1329), (11, 170, 11, 74, 2, 0, 1330), (11, 173, 11, 75, 2, 0, 1331), (11, 176, 11, 76, 2, 0, 1332), (11, 179, 11, 77, 2, 0, 1333), (11, 182, 11, 78, 2, 0, 1334), (11, 185, 11, 79, 2, 0, 1335), (11, 188, 11, 80, 2, 0, 1336), (11, 191, 11, 81, 2, 0, 1337), (11, 194, 11, 82, 2, 0, 1338), (11, 197, 11, 83, 2, 0, 1339), (11, 200, 11, 84, 2, 0, 1340), (11, 213, 11, 3, 0, 0, 1259), (11, 234, 11, 4, 0, 0, 1260), (11, 237, 11, 1, 0, 0, 1257), (11, 244, 11, 31, 0, 0, 1287), (11, 247, 11, 32, 0, 0, 1288), (11, 250, 11, 33, 0, 0, 1289), (11, 257, 11, 35, 0, 0, 1291), (11, 260, 11, 37, 0, 0, 1293), (11, 263, 11, 36, 0, 0, 1292), (11, 309, 11, 39, 3, 0, 1295), (11, 331, 11, 38, 3, 0, 1294), (11, 340, 11, 34, 0, 0, 1290), (11, 351, 11, 18, 0, 0, 1274), (11, 354, 11, 41, 0, 0, 1297), (11, 453, 11, 59, 0, 0, 1315), (11, 473, 11, 65, 0, 0, 1321), (11, 476, 11, 64, 0, 0, 1320), (11, 519, 11, 68, 3, 0, 1324), (11, 522, 11, 69, 0, 0, 1325), (11, 525, 11, 70, 0, 0, 1326), (11, 528, 11, 71, 0, 0, 1327), (11, 531, 11, 72, 0, 0, 1328)]
def fl (o idx : Nat) : Option (Nat × Nat × Nat) := (fTab.find? (fun q => q.1 == o && q.2.1 == idx)).map (fun q => (q.2.2.1, q.2.2.2.1, q.2.2.2.2.1))
def flkB (q : Nat × Nat × Nat × Nat × Nat × Nat × Nat) : Bool := match q with
  | (o, idx, ci, k, kd, nst, p) => (if nst = 0 then gat p (.fieldLink (cn o) idx (cn ci) (TT ci k).2.1 (TT ci k).2.2.1) else decide (nestW[p]? = some (.fieldLinkNest (cn o) idx (cn ci) (TT ci k).2.1 (TT ci k).2.2.1 "BellRibbons")))
    && decide (vwCl[ci]?.map (fun r => r.1) = some (cn ci)) && decide (k < NF ci) && decide (ci < 12) && decide ((TT ci k).1 = cn ci) && decide ((kdT ci)[k]? = some kd) && decide (parseFieldDescriptor (TT ci k).2.2.1 = some (tyT ci k)) && decide (kd = (match tyT ci k with | .int => 0 | .long => 1 | .boolean => 3 | _ => 2))
theorem fTab_ok : fTab.all flkB = true := by decide +kernel
theorem f0_11 : fl 0 11 = some (0, 1, 2) := by decide +kernel
theorem f0_16 : fl 0 16 = some (0, 2, 2) := by decide +kernel
theorem f0_20 : fl 0 20 = some (0, 3, 2) := by decide +kernel
theorem f0_23 : fl 0 23 = some (0, 0, 2) := by decide +kernel
theorem f0_30 : fl 0 30 = some (0, 4, 0) := by decide +kernel
theorem f0_34 : fl 0 34 = some (0, 5, 0) := by decide +kernel
theorem f0_44 : fl 0 44 = some (3, 13, 0) := by decide +kernel
theorem f0_49 : fl 0 49 = some (3, 9, 2) := by decide +kernel
theorem f0_52 : fl 0 52 = some (3, 10, 2) := by decide +kernel
theorem f0_55 : fl 0 55 = some (3, 11, 2) := by decide +kernel
theorem f0_63 : fl 0 63 = some (3, 7, 2) := by decide +kernel
theorem f1_11 : fl 1 11 = some (1, 0, 2) := by decide +kernel
theorem f1_15 : fl 1 15 = some (1, 1, 2) := by decide +kernel
theorem f1_18 : fl 1 18 = some (1, 2, 2) := by decide +kernel
theorem f1_21 : fl 1 21 = some (1, 3, 2) := by decide +kernel
theorem f1_24 : fl 1 24 = some (1, 4, 2) := by decide +kernel
theorem f1_27 : fl 1 27 = some (1, 5, 2) := by decide +kernel
theorem f1_30 : fl 1 30 = some (1, 6, 2) := by decide +kernel
theorem f1_39 : fl 1 39 = some (3, 5, 2) := by decide +kernel
theorem f1_42 : fl 1 42 = some (3, 6, 2) := by decide +kernel
theorem f1_52 : fl 1 52 = some (3, 8, 2) := by decide +kernel
theorem f1_55 : fl 1 55 = some (3, 9, 2) := by decide +kernel
theorem f1_58 : fl 1 58 = some (3, 4, 2) := by decide +kernel
theorem f1_62 : fl 1 62 = some (1, 8, 0) := by decide +kernel
theorem f1_70 : fl 1 70 = some (1, 10, 3) := by decide +kernel
theorem f1_74 : fl 1 74 = some (1, 11, 3) := by decide +kernel
theorem f1_77 : fl 1 77 = some (1, 9, 0) := by decide +kernel
theorem f1_89 : fl 1 89 = some (1, 7, 0) := by decide +kernel
theorem f2_12 : fl 2 12 = some (2, 0, 2) := by decide +kernel
theorem f2_18 : fl 2 18 = some (2, 1, 2) := by decide +kernel
theorem f2_22 : fl 2 22 = some (2, 2, 0) := by decide +kernel
theorem f2_26 : fl 2 26 = some (2, 3, 0) := by decide +kernel
theorem f2_29 : fl 2 29 = some (2, 4, 0) := by decide +kernel
theorem f2_56 : fl 2 56 = some (1, 8, 0) := by decide +kernel
theorem f3_9 : fl 3 9 = some (3, 0, 2) := by decide +kernel
theorem f3_15 : fl 3 15 = some (3, 1, 2) := by decide +kernel
theorem f3_18 : fl 3 18 = some (3, 2, 2) := by decide +kernel
theorem f3_21 : fl 3 21 = some (3, 3, 2) := by decide +kernel
theorem f3_25 : fl 3 25 = some (3, 4, 2) := by decide +kernel
theorem f3_28 : fl 3 28 = some (3, 5, 2) := by decide +kernel
theorem f3_31 : fl 3 31 = some (3, 6, 2) := by decide +kernel
theorem f3_34 : fl 3 34 = some (3, 7, 2) := by decide +kernel
theorem f3_37 : fl 3 37 = some (3, 8, 2) := by decide +kernel
theorem f3_40 : fl 3 40 = some (3, 9, 2) := by decide +kernel
theorem f3_43 : fl 3 43 = some (3, 10, 2) := by decide +kernel
theorem f3_46 : fl 3 46 = some (3, 11, 2) := by decide +kernel
theorem f3_49 : fl 3 49 = some (3, 12, 0) := by decide +kernel
theorem f3_53 : fl 3 53 = some (3, 13, 0) := by decide +kernel
theorem f3_76 : fl 3 76 = some (3, 14, 0) := by decide +kernel
theorem f3_79 : fl 3 79 = some (3, 15, 0) := by decide +kernel
theorem f4_9 : fl 4 9 = some (4, 3, 2) := by decide +kernel
theorem f4_15 : fl 4 15 = some (4, 4, 2) := by decide +kernel
theorem f4_18 : fl 4 18 = some (4, 5, 2) := by decide +kernel
theorem f4_23 : fl 4 23 = some (4, 6, 2) := by decide +kernel
theorem f4_26 : fl 4 26 = some (4, 7, 2) := by decide +kernel
theorem f4_29 : fl 4 29 = some (4, 8, 2) := by decide +kernel
theorem f4_32 : fl 4 32 = some (4, 9, 2) := by decide +kernel
theorem f4_35 : fl 4 35 = some (4, 0, 2) := by decide +kernel
theorem f4_39 : fl 4 39 = some (4, 1, 2) := by decide +kernel
theorem f4_43 : fl 4 43 = some (4, 2, 2) := by decide +kernel
theorem f4_56 : fl 4 56 = some (4, 10, 0) := by decide +kernel
theorem f4_81 : fl 4 81 = some (3, 14, 0) := by decide +kernel
theorem f4_93 : fl 4 93 = some (3, 5, 2) := by decide +kernel
theorem f4_96 : fl 4 96 = some (3, 6, 2) := by decide +kernel
theorem f4_99 : fl 4 99 = some (7, 2, 2) := by decide +kernel
theorem f4_101 : fl 4 101 = some (7, 3, 2) := by decide +kernel
theorem f4_113 : fl 4 113 = some (4, 11, 0) := by decide +kernel
theorem f4_120 : fl 4 120 = some (3, 7, 2) := by decide +kernel
theorem f5_11 : fl 5 11 = some (5, 2, 2) := by decide +kernel
theorem f5_17 : fl 5 17 = some (5, 3, 2) := by decide +kernel
theorem f5_23 : fl 5 23 = some (5, 4, 2) := by decide +kernel
theorem f5_26 : fl 5 26 = some (5, 5, 2) := by decide +kernel
theorem f5_29 : fl 5 29 = some (5, 6, 2) := by decide +kernel
theorem f5_32 : fl 5 32 = some (5, 0, 2) := by decide +kernel
theorem f5_36 : fl 5 36 = some (5, 1, 2) := by decide +kernel
theorem f5_43 : fl 5 43 = some (5, 7, 0) := by decide +kernel
theorem f5_47 : fl 5 47 = some (5, 8, 0) := by decide +kernel
theorem f5_50 : fl 5 50 = some (3, 14, 0) := by decide +kernel
theorem f5_62 : fl 5 62 = some (5, 11, 0) := by decide +kernel
theorem f5_65 : fl 5 65 = some (3, 13, 0) := by decide +kernel
theorem f5_86 : fl 5 86 = some (5, 9, 0) := by decide +kernel
theorem f5_89 : fl 5 89 = some (5, 10, 0) := by decide +kernel
theorem f5_96 : fl 5 96 = some (3, 7, 2) := by decide +kernel
theorem f5_149 : fl 5 149 = some (7, 2, 2) := by decide +kernel
theorem f5_152 : fl 5 152 = some (7, 3, 2) := by decide +kernel
theorem f5_155 : fl 5 155 = some (3, 5, 2) := by decide +kernel
theorem f5_158 : fl 5 158 = some (3, 6, 2) := by decide +kernel
theorem f6_9 : fl 6 9 = some (6, 2, 2) := by decide +kernel
theorem f6_15 : fl 6 15 = some (6, 3, 2) := by decide +kernel
theorem f6_18 : fl 6 18 = some (6, 4, 2) := by decide +kernel
theorem f6_21 : fl 6 21 = some (6, 5, 2) := by decide +kernel
theorem f6_24 : fl 6 24 = some (6, 0, 2) := by decide +kernel
theorem f6_28 : fl 6 28 = some (6, 1, 2) := by decide +kernel
theorem f6_42 : fl 6 42 = some (3, 14, 0) := by decide +kernel
theorem f6_54 : fl 6 54 = some (3, 13, 0) := by decide +kernel
theorem f6_61 : fl 6 61 = some (3, 7, 2) := by decide +kernel
theorem f6_67 : fl 6 67 = some (7, 5, 2) := by decide +kernel
theorem f6_70 : fl 6 70 = some (3, 2, 2) := by decide +kernel
theorem f6_85 : fl 6 85 = some (6, 6, 0) := by decide +kernel
theorem f6_88 : fl 6 88 = some (6, 7, 0) := by decide +kernel
theorem f7_9 : fl 7 9 = some (7, 2, 2) := by decide +kernel
theorem f7_15 : fl 7 15 = some (7, 3, 2) := by decide +kernel
theorem f7_18 : fl 7 18 = some (7, 4, 2) := by decide +kernel
theorem f7_21 : fl 7 21 = some (7, 5, 2) := by decide +kernel
theorem f7_24 : fl 7 24 = some (7, 0, 2) := by decide +kernel
theorem f7_28 : fl 7 28 = some (7, 1, 2) := by decide +kernel
theorem f7_32 : fl 7 32 = some (3, 13, 0) := by decide +kernel
theorem f7_38 : fl 7 38 = some (3, 5, 2) := by decide +kernel
theorem f7_41 : fl 7 41 = some (3, 11, 2) := by decide +kernel
theorem f7_49 : fl 7 49 = some (3, 7, 2) := by decide +kernel
theorem f7_62 : fl 7 62 = some (3, 6, 2) := by decide +kernel
theorem f7_65 : fl 7 65 = some (3, 12, 0) := by decide +kernel
theorem f7_68 : fl 7 68 = some (3, 0, 2) := by decide +kernel
theorem f7_71 : fl 7 71 = some (3, 1, 2) := by decide +kernel
theorem f7_77 : fl 7 77 = some (3, 3, 2) := by decide +kernel
theorem f7_80 : fl 7 80 = some (3, 2, 2) := by decide +kernel
theorem f8_11 : fl 8 11 = some (8, 0, 2) := by decide +kernel
theorem f8_15 : fl 8 15 = some (8, 1, 0) := by decide +kernel
theorem f9_9 : fl 9 9 = some (9, 3, 2) := by decide +kernel
theorem f9_15 : fl 9 15 = some (9, 0, 2) := by decide +kernel
theorem f9_19 : fl 9 19 = some (9, 1, 2) := by decide +kernel
theorem f9_23 : fl 9 23 = some (9, 2, 2) := by decide +kernel
theorem f9_27 : fl 9 27 = some (3, 12, 0) := by decide +kernel
theorem f9_33 : fl 9 33 = some (3, 3, 2) := by decide +kernel
theorem f9_47 : fl 9 47 = some (3, 14, 0) := by decide +kernel
theorem f9_56 : fl 9 56 = some (9, 7, 1) := by decide +kernel
theorem f9_60 : fl 9 60 = some (3, 13, 0) := by decide +kernel
theorem f9_63 : fl 9 63 = some (3, 11, 2) := by decide +kernel
theorem f9_76 : fl 9 76 = some (3, 7, 2) := by decide +kernel
theorem f9_88 : fl 9 88 = some (7, 2, 2) := by decide +kernel
theorem f9_91 : fl 9 91 = some (7, 3, 2) := by decide +kernel
theorem f9_105 : fl 9 105 = some (9, 4, 2) := by decide +kernel
theorem f9_108 : fl 9 108 = some (9, 6, 0) := by decide +kernel
theorem f9_118 : fl 9 118 = some (9, 9, 0) := by decide +kernel
theorem f9_124 : fl 9 124 = some (9, 8, 0) := by decide +kernel
theorem f9_127 : fl 9 127 = some (9, 5, 2) := by decide +kernel
theorem f9_143 : fl 9 143 = some (3, 5, 2) := by decide +kernel
theorem f9_146 : fl 9 146 = some (3, 6, 2) := by decide +kernel
theorem f10_10 : fl 10 10 = some (10, 0, 2) := by decide +kernel
theorem f10_19 : fl 10 19 = some (10, 1, 2) := by decide +kernel
theorem f10_23 : fl 10 23 = some (10, 2, 2) := by decide +kernel
theorem f10_29 : fl 10 29 = some (10, 3, 2) := by decide +kernel
theorem f10_38 : fl 10 38 = some (10, 4, 2) := by decide +kernel
theorem f10_47 : fl 10 47 = some (10, 5, 2) := by decide +kernel
theorem f10_54 : fl 10 54 = some (10, 6, 2) := by decide +kernel
theorem f10_63 : fl 10 63 = some (10, 7, 2) := by decide +kernel
theorem f10_70 : fl 10 70 = some (10, 8, 2) := by decide +kernel
theorem f10_79 : fl 10 79 = some (10, 9, 2) := by decide +kernel
theorem f10_88 : fl 10 88 = some (10, 10, 2) := by decide +kernel
theorem f10_96 : fl 10 96 = some (3, 15, 0) := by decide +kernel
theorem f10_107 : fl 10 107 = some (3, 12, 0) := by decide +kernel
theorem f10_114 : fl 10 114 = some (3, 2, 2) := by decide +kernel
theorem f10_118 : fl 10 118 = some (3, 3, 2) := by decide +kernel
theorem f10_122 : fl 10 122 = some (3, 4, 2) := by decide +kernel
theorem f10_137 : fl 10 137 = some (3, 14, 0) := by decide +kernel
theorem f10_148 : fl 10 148 = some (8, 1, 0) := by decide +kernel
theorem f10_158 : fl 10 158 = some (2, 0, 2) := by decide +kernel
theorem f10_165 : fl 10 165 = some (1, 8, 0) := by decide +kernel
theorem f10_172 : fl 10 172 = some (7, 4, 2) := by decide +kernel
theorem f10_175 : fl 10 175 = some (7, 5, 2) := by decide +kernel
theorem f10_181 : fl 10 181 = some (3, 0, 2) := by decide +kernel
theorem f10_184 : fl 10 184 = some (3, 1, 2) := by decide +kernel
theorem f10_190 : fl 10 190 = some (3, 7, 2) := by decide +kernel
theorem f10_197 : fl 10 197 = some (3, 5, 2) := by decide +kernel
theorem f10_200 : fl 10 200 = some (3, 6, 2) := by decide +kernel
theorem f10_203 : fl 10 203 = some (3, 8, 2) := by decide +kernel
theorem f10_206 : fl 10 206 = some (3, 9, 2) := by decide +kernel
theorem f10_209 : fl 10 209 = some (3, 10, 2) := by decide +kernel
theorem f10_212 : fl 10 212 = some (3, 11, 2) := by decide +kernel
theorem f10_230 : fl 10 230 = some (5, 9, 0) := by decide +kernel
theorem f10_233 : fl 10 233 = some (5, 10, 0) := by decide +kernel
theorem f10_239 : fl 10 239 = some (5, 11, 0) := by decide +kernel
theorem f10_251 : fl 10 251 = some (4, 9, 2) := by decide +kernel
theorem f10_254 : fl 10 254 = some (4, 11, 0) := by decide +kernel
theorem f10_286 : fl 10 286 = some (9, 8, 0) := by decide +kernel
theorem f10_289 : fl 10 289 = some (9, 9, 0) := by decide +kernel
theorem f10_302 : fl 10 302 = some (0, 5, 0) := by decide +kernel
theorem f10_305 : fl 10 305 = some (0, 4, 0) := by decide +kernel
theorem f10_308 : fl 10 308 = some (0, 3, 2) := by decide +kernel
theorem f10_319 : fl 10 319 = some (6, 6, 0) := by decide +kernel
theorem f10_322 : fl 10 322 = some (6, 7, 0) := by decide +kernel
theorem f10_344 : fl 10 344 = some (10, 11, 3) := by decide +kernel
theorem f10_354 : fl 10 354 = some (3, 13, 0) := by decide +kernel
theorem f11_7 : fl 11 7 = some (11, 0, 2) := by decide +kernel
theorem f11_13 : fl 11 13 = some (11, 2, 0) := by decide +kernel
theorem f11_17 : fl 11 17 = some (11, 5, 0) := by decide +kernel
theorem f11_20 : fl 11 20 = some (11, 6, 2) := by decide +kernel
theorem f11_24 : fl 11 24 = some (11, 7, 2) := by decide +kernel
theorem f11_27 : fl 11 27 = some (11, 8, 2) := by decide +kernel
theorem f11_30 : fl 11 30 = some (11, 9, 2) := by decide +kernel
theorem f11_34 : fl 11 34 = some (11, 10, 2) := by decide +kernel
theorem f11_37 : fl 11 37 = some (11, 11, 2) := by decide +kernel
theorem f11_40 : fl 11 40 = some (11, 12, 2) := by decide +kernel
theorem f11_43 : fl 11 43 = some (11, 13, 2) := by decide +kernel
theorem f11_46 : fl 11 46 = some (11, 14, 2) := by decide +kernel
theorem f11_49 : fl 11 49 = some (11, 15, 2) := by decide +kernel
theorem f11_52 : fl 11 52 = some (11, 16, 2) := by decide +kernel
theorem f11_55 : fl 11 55 = some (11, 17, 2) := by decide +kernel
theorem f11_58 : fl 11 58 = some (11, 19, 2) := by decide +kernel
theorem f11_61 : fl 11 61 = some (11, 20, 2) := by decide +kernel
theorem f11_64 : fl 11 64 = some (11, 21, 2) := by decide +kernel
theorem f11_67 : fl 11 67 = some (11, 22, 2) := by decide +kernel
theorem f11_70 : fl 11 70 = some (11, 23, 2) := by decide +kernel
theorem f11_73 : fl 11 73 = some (11, 24, 2) := by decide +kernel
theorem f11_76 : fl 11 76 = some (11, 25, 2) := by decide +kernel
theorem f11_79 : fl 11 79 = some (11, 26, 2) := by decide +kernel
theorem f11_82 : fl 11 82 = some (11, 27, 2) := by decide +kernel
theorem f11_85 : fl 11 85 = some (11, 28, 2) := by decide +kernel
theorem f11_88 : fl 11 88 = some (11, 29, 2) := by decide +kernel
theorem f11_91 : fl 11 91 = some (11, 30, 2) := by decide +kernel
theorem f11_94 : fl 11 94 = some (11, 40, 2) := by decide +kernel
theorem f11_97 : fl 11 97 = some (11, 42, 2) := by decide +kernel
theorem f11_100 : fl 11 100 = some (11, 43, 2) := by decide +kernel
theorem f11_103 : fl 11 103 = some (11, 44, 2) := by decide +kernel
theorem f11_106 : fl 11 106 = some (11, 45, 2) := by decide +kernel
theorem f11_109 : fl 11 109 = some (11, 46, 2) := by decide +kernel
theorem f11_112 : fl 11 112 = some (11, 47, 2) := by decide +kernel
theorem f11_115 : fl 11 115 = some (11, 48, 2) := by decide +kernel
theorem f11_118 : fl 11 118 = some (11, 49, 2) := by decide +kernel
theorem f11_121 : fl 11 121 = some (11, 50, 2) := by decide +kernel
theorem f11_124 : fl 11 124 = some (11, 51, 2) := by decide +kernel
theorem f11_127 : fl 11 127 = some (11, 52, 2) := by decide +kernel
theorem f11_130 : fl 11 130 = some (11, 53, 2) := by decide +kernel
theorem f11_133 : fl 11 133 = some (11, 54, 2) := by decide +kernel
theorem f11_136 : fl 11 136 = some (11, 55, 2) := by decide +kernel
theorem f11_139 : fl 11 139 = some (11, 56, 2) := by decide +kernel
theorem f11_142 : fl 11 142 = some (11, 57, 2) := by decide +kernel
theorem f11_146 : fl 11 146 = some (11, 58, 2) := by decide +kernel
theorem f11_149 : fl 11 149 = some (11, 60, 2) := by decide +kernel
theorem f11_152 : fl 11 152 = some (11, 61, 2) := by decide +kernel
theorem f11_155 : fl 11 155 = some (11, 62, 2) := by decide +kernel
theorem f11_158 : fl 11 158 = some (11, 63, 2) := by decide +kernel
theorem f11_161 : fl 11 161 = some (11, 66, 2) := by decide +kernel
theorem f11_164 : fl 11 164 = some (11, 67, 2) := by decide +kernel
theorem f11_167 : fl 11 167 = some (11, 73, 2) := by decide +kernel
theorem f11_170 : fl 11 170 = some (11, 74, 2) := by decide +kernel
theorem f11_173 : fl 11 173 = some (11, 75, 2) := by decide +kernel
theorem f11_176 : fl 11 176 = some (11, 76, 2) := by decide +kernel
theorem f11_179 : fl 11 179 = some (11, 77, 2) := by decide +kernel
theorem f11_182 : fl 11 182 = some (11, 78, 2) := by decide +kernel
theorem f11_185 : fl 11 185 = some (11, 79, 2) := by decide +kernel
theorem f11_188 : fl 11 188 = some (11, 80, 2) := by decide +kernel
theorem f11_191 : fl 11 191 = some (11, 81, 2) := by decide +kernel
theorem f11_194 : fl 11 194 = some (11, 82, 2) := by decide +kernel
theorem f11_197 : fl 11 197 = some (11, 83, 2) := by decide +kernel
theorem f11_200 : fl 11 200 = some (11, 84, 2) := by decide +kernel
theorem f11_213 : fl 11 213 = some (11, 3, 0) := by decide +kernel
theorem f11_234 : fl 11 234 = some (11, 4, 0) := by decide +kernel
theorem f11_237 : fl 11 237 = some (11, 1, 0) := by decide +kernel
theorem f11_244 : fl 11 244 = some (11, 31, 0) := by decide +kernel
theorem f11_247 : fl 11 247 = some (11, 32, 0) := by decide +kernel
theorem f11_250 : fl 11 250 = some (11, 33, 0) := by decide +kernel
theorem f11_257 : fl 11 257 = some (11, 35, 0) := by decide +kernel
theorem f11_260 : fl 11 260 = some (11, 37, 0) := by decide +kernel
theorem f11_263 : fl 11 263 = some (11, 36, 0) := by decide +kernel
theorem f11_309 : fl 11 309 = some (11, 39, 3) := by decide +kernel
theorem f11_331 : fl 11 331 = some (11, 38, 3) := by decide +kernel
theorem f11_340 : fl 11 340 = some (11, 34, 0) := by decide +kernel
theorem f11_351 : fl 11 351 = some (11, 18, 0) := by decide +kernel
theorem f11_354 : fl 11 354 = some (11, 41, 0) := by decide +kernel
theorem f11_453 : fl 11 453 = some (11, 59, 0) := by decide +kernel
theorem f11_473 : fl 11 473 = some (11, 65, 0) := by decide +kernel
theorem f11_476 : fl 11 476 = some (11, 64, 0) := by decide +kernel
theorem f11_519 : fl 11 519 = some (11, 68, 3) := by decide +kernel
theorem f11_522 : fl 11 522 = some (11, 69, 0) := by decide +kernel
theorem f11_525 : fl 11 525 = some (11, 70, 0) := by decide +kernel
theorem f11_528 : fl 11 528 = some (11, 71, 0) := by decide +kernel
theorem f11_531 : fl 11 531 = some (11, 72, 0) := by decide +kernel
end
section
/-- method links -/
def mTab : List (Nat × Nat × MI × Nat × Nat) := [(0, 27, mX0_addUp, 0, 1105), (0, 40, mX0_goOn, 0, 1111), (0, 59, mX10_areTwo, 1, 91), (0, 72, mX0_compare, 0, 1116), (0, 82, mX0_findBest, 0, 1129), (0, 86, mX0_cutRing, 0, 1130), (0, 89, mX3_cutDebt, 0, 1134), (1, 33, mX3_hasRibbon, 0, 779), (1, 45, mX1_lookAt, 0, 783), (1, 49, mX3_hasRod, 0, 787), (1, 66, mX1_reckon, 0, 792), (1, 92, mX1_put, 0, 799), (1, 95, mX10_within, 1, 86), (1, 99, mX1_compare, 0, 804), (1, 102, mX1_combine, 0, 808), (1, 105, mX1_emit, 0, 733), (2, 11, mX1_init, 1, 63), (2, 32, mX1_forget, 0, 671), (2, 35, mX2_readClause, 0, 675), (2, 39, mX2_take, 0, 711), (2, 43, mX8_byteAt, 0, 683), (2, 49, mX2_next, 0, 679), (2, 53, mX2_fail, 0, 687), (2, 59, mX1_startClause, 0, 691), (2, 63, mX2_readSum, 0, 695), (2, 66, mX2_open, 0, 707), (2, 70, mX1_startCondition, 0, 729), (2, 73, mX2_readCondition, 0, 734), (2, 76, mX1_emit, 0, 722), (2, 80, mX2_readPart, 0, 738), (2, 83, mX1_emitJump, 0, 746), (2, 87, mX1_aimHere, 0, 750), (2, 90, mX2_readPiece, 0, 742), (2, 93, mX2_readTerm, 0, 699), (2, 96, mX2_readFactor, 0, 703), (2, 99, mX2_isDigit, 0, 715), (2, 102, mX2_readNumber, 0, 718), (2, 105, mX1_factOf, 0, 726), (3, 56, mX3_hasRibbon, 0, 847), (3, 60, mX3_isDebt, 0, 1093), (4, 60, mX8_byteAt, 0, 919), (4, 66, mX3_isHanging, 0, 920), (4, 72, mX3_hasRod, 0, 921), (4, 75, mX10_reaches, 1, 88), (4, 78, mX4_isTwice, 0, 923), (4, 84, mX7_weigh, 0, 931), (4, 90, mX3_hasRibbon, 0, 932), (4, 103, mX7_shift, 0, 933), (4, 107, mX4_weighAtPlaces, 0, 934), (4, 116, mX4_hangFrom, 0, 941), (4, 123, mX1_lookAt, 0, 938), (4, 129, mX1_ask, 0, 939), (4, 132, mX4_compare, 0, 945), (4, 135, mX7_leansTogether, 0, 949), (5, 40, mX7_init, 0, 370), (5, 55, mX5_startDay, 0, 860), (5, 59, mX5_weighChanges, 0, 870), (5, 68, mX5_canCut, 0, 874), (5, 72, mX5_shift, 0, 888), (5, 76, mX5_tryKnots, 0, 897), (5, 79, mX5_canKnot, 0, 882), (5, 82, mX7_leansOtherThan, 0, 901), (5, 92, mX3_hasRibbon, 0, 892), (5, 99, mX8_byteAt, 0, 1066), (5, 105, mX5_mostPayable, 0, 1067), (5, 109, mX5_findUnseen, 0, 1073), (5, 112, mX3_isWhiteOf, 0, 878), (5, 124, mX5_isUnseen, 0, 1077), (5, 128, mX7_isPicture, 0, 1081), (5, 132, mX7_weigh, 0, 864), (5, 136, mX7_writeLeans, 0, 865), (5, 140, mX1_look, 0, 886), (5, 146, mX1_ask, 0, 887), (5, 161, mX7_shift, 0, 893), (6, 32, mX8_byteAt, 0, 1147), (6, 38, mX10_isPerson, 1, 92), (6, 48, mX7_weigh, 0, 1157), (6, 57, mX3_isWhiteOf, 0, 1158), (6, 64, mX7_partOfMoment, 0, 1159), (6, 73, mX10_leanOf, 1, 93), (6, 82, mX6_weighPeople, 0, 1153), (6, 91, mX6_isTipped, 0, 1163), (6, 94, mX6_bestFrom, 0, 1183), (6, 97, mX6_hopeBy, 0, 1187), (6, 103, mX6_hopeOf, 0, 1191), (6, 106, mX6_nextPerson, 0, 1204), (7, 45, mX3_hasRod, 0, 774), (7, 52, mX1_look, 0, 775), (7, 58, mX1_ask, 0, 788), (7, 74, mX3_hasRibbon, 0, 988), (7, 83, mX10_leanOf, 1, 87), (7, 87, mX7_lean, 0, 869), (8, 19, mX8_byteAt, 0, 1022), (8, 23, mX10_within, 1, 90), (9, 37, mX8_byteAt, 0, 973), (9, 43, mX10_reaches, 1, 89), (9, 50, mX7_weigh, 0, 983), (9, 66, mX7_leanBeside, 0, 984), (9, 70, mX3_hasRibbon, 0, 993), (9, 73, mX9_isInQuestion, 0, 989), (9, 79, mX1_look, 0, 998), (9, 85, mX1_ask, 0, 999), (9, 94, mX7_wouldLean, 0, 1000), (9, 98, mX9_startWatch, 0, 979), (9, 101, mX9_mayBe, 0, 994), (9, 111, mX3_seenRods, 0, 1032), (9, 121, mX9_crowdBy, 0, 1034), (9, 131, mX9_pictureOf, 0, 1038), (9, 135, mX9_sort, 0, 1049), (9, 139, mX9_longestStretch, 0, 1053), (9, 149, mX7_shift, 0, 1042), (9, 153, mX7_picture, 0, 1043), (10, 9, mX8_init, 1, 0), (10, 18, mX3_init, 1, 2), (10, 28, mX1_init, 1, 60), (10, 35, mX2_init, 0, 303), (10, 44, mX7_init, 0, 328), (10, 53, mX5_init, 0, 362), (10, 60, mX4_init, 0, 413), (10, 69, mX9_init, 0, 459), (10, 76, mX0_init, 0, 498), (10, 85, mX6_init, 0, 527), (10, 92, mX3_addRod, 0, 558), (10, 100, mX3_hasRod, 0, 603), (10, 104, mX10_reaches, 0, 607), (10, 110, mX10_within, 0, 610), (10, 125, mX10_mayHang, 0, 629), (10, 129, mX3_addRibbon, 0, 636), (10, 133, mX10_areTwo, 0, 644), (10, 140, mX8_hasRoom, 0, 655), (10, 144, mX8_add, 0, 659), (10, 151, mX2_read, 0, 667), (10, 155, mX8_empty, 0, 754), (10, 161, mX1_copyFrom, 0, 758), (10, 169, mX7_weigh, 0, 770), (10, 178, mX7_lean, 0, 815), (10, 187, mX3_hasRibbon, 0, 828), (10, 193, mX1_look, 0, 829), (10, 215, mX1_ask, 0, 830), (10, 218, mX10_isPerson, 0, 633), (10, 221, mX3_balanceOf, 0, 835), (10, 224, mX3_isHanging, 0, 843), (10, 227, mX5_findPayment, 0, 856), (10, 236, mX5_carryOut, 0, 905), (10, 242, mX4_read, 0, 913), (10, 245, mX4_search, 0, 927), (10, 248, mX4_hang, 0, 957), (10, 257, mX3_seenRods, 0, 965), (10, 261, mX9_readPicture, 0, 969), (10, 265, mX9_falseLengths, 0, 975), (10, 270, mX9_suspectBits, 0, 1009), (10, 276, mX8_allWithin, 0, 1018), (10, 279, mX9_collectCases, 0, 1024), (10, 282, mX9_findGust, 0, 1028), (10, 292, mX5_findFraud, 0, 1062), (10, 296, mX3_debt, 0, 1089), (10, 299, mX0_findBest, 0, 1101), (10, 309, mX0_cutAll, 0, 1125), (10, 312, mX6_readPeople, 0, 1143), (10, 315, mX6_happen, 0, 1149), (10, 325, mJ6_bitCount_0f7a4, 0, 1173), (10, 330, mX6_findBest, 0, 1179), (10, 332, mX6_most, 0, 1196), (10, 335, mX6_personAt, 0, 1200), (10, 339, mX7_isSeenToLean, 0, 1217), (10, 342, mX3_copyFrom, 0, 1225), (10, 348, mX3_hanging, 0, 1230), (10, 351, mX8_numberAt, 0, 1242), (11, 203, mX11_lies, 0, 1521), (11, 216, mX11_isRod, 0, 1517), (11, 220, mX11_isArm, 0, 1524), (11, 227, mX11_isPerson, 0, 1551), (11, 230, mX11_adds, 0, 1546), (11, 240, mX11_push, 0, 1567), (11, 253, mX11_isGood, 0, 1576), (11, 266, mX11_wrongs, 0, 1588), (11, 270, mX11_here, 0, 1584), (11, 274, mX11_puts, 0, 1604), (11, 281, mX11_seesDigit, 0, 1608), (11, 284, mX11_top, 0, 1639), (11, 287, mX11_isTimes, 0, 1629), (11, 290, mX11_isPlus, 0, 1632), (11, 293, mX11_emit, 0, 1618), (11, 296, mX11_opens, 0, 1600), (11, 299, mX11_reads, 0, 1614), (11, 302, mX11_isValue, 0, 1622), (11, 305, mX11_sums, 0, 1635), (11, 313, mX11_factor, 0, 1596), (11, 316, mX11_stays, 0, 1625), (11, 319, mX11_value, 0, 1592), (11, 322, mX11_isSign, 0, 1651), (11, 325, mX11_ends, 0, 1654), (11, 328, mX11_joins, 0, 1662), (11, 334, mX11_pieceOfC, 0, 1647), (11, 337, mX11_goesBehind, 0, 1658), (11, 343, mX11_condition, 0, 1643), (11, 348, mX11_clause, 0, 1580), (11, 357, mX11_worked, 0, 1691), (11, 361, mX11_does, 0, 1687), (11, 364, mX11_valueOf, 0, 1694), (11, 368, mX11_works, 0, 1683), (11, 371, mX11_tells, 0, 1679), (11, 375, mX11_heavy, 0, 1675), (11, 378, mX11_pushed, 0, 1698), (11, 381, mX11_laysLeans, 0, 1671), (11, 387, mX11_isRibbon, 0, 1706), (11, 390, mX11_isWhiteOf, 0, 1733), (11, 394, mX11_knots, 0, 1741), (11, 404, mX11_canKnot, 0, 1729), (11, 408, mX11_othersBy, 0, 1737), (11, 411, mX11_byteAt, 0, 1754), (11, 414, mX11_size, 0, 1767), (11, 419, mX11_takesPlaces, 0, 1750), (11, 423, mX11_hangsBy, 0, 1759), (11, 426, mX11_sumOfLeans, 0, 1763), (11, 429, mX11_goesOn, 0, 1770), (11, 432, mX11_picture, 0, 1795), (11, 436, mX11_canBe, 0, 1791), (11, 440, mX11_seenMany, 0, 1778), (11, 443, mX11_toldPicture, 0, 1782), (11, 447, mX11_lengthsOf, 0, 1787), (11, 456, mX11_laysFalse, 0, 1808), (11, 460, mX11_mostAlike, 0, 1812), (11, 463, mX11_isUnseen, 0, 1824), (11, 466, mX11_isFraud, 0, 1820), (11, 470, mX11_laysDebts, 0, 1832), (11, 479, mX11_isOn, 0, 1844), (11, 482, mX11_looksAt, 0, 1848), (11, 485, mX11_findsRing, 0, 1840), (11, 488, mX11_cuts, 0, 1856), (11, 491, mX11_has, 0, 1865), (11, 496, mX11_isTipped, 0, 1868), (11, 499, mX11_whiteOf, 0, 1872), (11, 504, mX11_sizeOf, 0, 1881), (11, 507, mX11_getsBy, 0, 1884), (11, 516, mX11_someLeans, 0, 1899), (11, 534, mX11_hanging, 0, 1907), (11, 537, mX11_numberAt, 0, 1919), (99, 9, mX10_init, 0, 122), (99, 12, mX11_init, 0, 1252), (99, 13, mX10_rod, 0, 599), (99, 17, mX11_rod, 0, 1513), (99, 18, mX10_stiff, 0, 613), (99, 22, mX11_stiff, 0, 1529), (99, 23, mX10_seen, 0, 617), (99, 27, mX11_seen, 0, 1534), (99, 28, mX10_wet, 0, 621), (99, 31, mX11_wet, 0, 1538), (99, 32, mX10_white, 0, 625), (99, 36, mX11_white, 0, 1542), (99, 37, mX10_red, 0, 640), (99, 41, mX11_red, 0, 1555), (99, 42, mX10_wind, 0, 647), (99, 46, mX11_wind, 0, 1559), (99, 47, mX10_feed, 0, 651), (99, 50, mX11_feed, 0, 1563), (99, 51, mX10_law, 0, 663), (99, 55, mX11_law, 0, 1571), (99, 56, mX10_rodIs, 0, 765), (99, 59, mX11_rodIs, 0, 1666), (99, 60, mX10_ribbon, 0, 824), (99, 63, mX11_ribbon, 0, 1702), (99, 64, mX10_balance, 0, 831), (99, 67, mX11_balance, 0, 1710), (99, 68, mX10_move, 0, 839), (99, 72, mX11_move, 0, 1714), (99, 73, mX10_fall, 0, 848), (99, 76, mX11_fall, 0, 1718), (99, 77, mX10_pay, 0, 852), (99, 80, mX11_pay, 0, 1722), (99, 81, mX10_level, 0, 909), (99, 84, mX11_level, 0, 1745), (99, 85, mX10_falseBy, 0, 961), (99, 88, mX11_falseBy, 0, 1774), (99, 89, mX10_suspects, 0, 1004), (99, 93, mX11_suspects, 0, 1799), (99, 94, mX10_gust, 0, 1014), (99, 97, mX11_gust, 0, 1804), (99, 98, mX10_fraud, 0, 1058), (99, 101, mX11_fraud, 0, 1816), (99, 102, mX10_owes, 0, 1085), (99, 105, mX11_owes, 0, 1828), (99, 106, mX10_ring, 0, 1097), (99, 109, mX11_ring, 0, 1836), (99, 110, mX10_clear, 0, 1121), (99, 114, mX11_clear, 0, 1852), (99, 115, mX10_run, 0, 1139), (99, 119, mX11_run, 0, 1860), (99, 120, mX10_order, 0, 1169), (99, 123, mX11_order, 0, 1876), (99, 124, mX10_seed, 0, 1208), (99, 127, mX11_seed, 0, 1888), (99, 128, mX10_draw, 0, 1213), (99, 131, mX11_draw, 0, 1893), (99, 132, mX10_keep, 0, 1221), (99, 135, mX11_keep, 0, 1903), (99, 136, mX10_undo, 0, 1234), (99, 140, mX11_undo, 0, 1911), (99, 141, mX10_check, 0, 1238), (99, 144, mX11_check, 0, 1915), (99, 145, mX10_count, 0, 1246), (99, 148, mX11_count, 0, 1923)]
def mlk (o idx : Nat) : Option MI := (mTab.find? (fun q => q.1 == o && q.2.1 == idx)).map (fun q => q.2.2.1)
def mlkB (q : Nat × Nat × MI × Nat × Nat) : Bool := match q with
  | (o, idx, M, nst, p) => if nst = 0 then gat p (.methodLink (cn o) idx M.yn) else decide (nestW[p]? = some (.methodLinkNest (cn o) idx M.yn "BellRibbons"))
theorem mTab_ok : mTab.all mlkB = true := by decide +kernel
set_option maxRecDepth 100000 in
theorem mTab_in : ∀ q ∈ mTab, mokD q.2.2.1 := List.forall_mem_cons.mpr ⟨kX0_addUp, List.forall_mem_cons.mpr ⟨kX0_goOn, List.forall_mem_cons.mpr ⟨kX10_areTwo, List.forall_mem_cons.mpr ⟨kX0_compare, List.forall_mem_cons.mpr ⟨kX0_findBest, List.forall_mem_cons.mpr ⟨kX0_cutRing, List.forall_mem_cons.mpr ⟨kX3_cutDebt, List.forall_mem_cons.mpr ⟨kX3_hasRibbon, List.forall_mem_cons.mpr ⟨kX1_lookAt, List.forall_mem_cons.mpr ⟨kX3_hasRod, List.forall_mem_cons.mpr ⟨kX1_reckon, List.forall_mem_cons.mpr ⟨kX1_put, List.forall_mem_cons.mpr ⟨kX10_within, List.forall_mem_cons.mpr ⟨kX1_compare, List.forall_mem_cons.mpr ⟨kX1_combine, List.forall_mem_cons.mpr ⟨kX1_emit, List.forall_mem_cons.mpr ⟨kX1_init, List.forall_mem_cons.mpr ⟨kX1_forget, List.forall_mem_cons.mpr ⟨kX2_readClause, List.forall_mem_cons.mpr ⟨kX2_take, List.forall_mem_cons.mpr ⟨kX8_byteAt, List.forall_mem_cons.mpr ⟨kX2_next, List.forall_mem_cons.mpr ⟨kX2_fail, List.forall_mem_cons.mpr ⟨kX1_startClause, List.forall_mem_cons.mpr ⟨kX2_readSum, List.forall_mem_cons.mpr ⟨kX2_open, List.forall_mem_cons.mpr ⟨kX1_startCondition, List.forall_mem_cons.mpr ⟨kX2_readCondition, List.forall_mem_cons.mpr ⟨kX1_emit, List.forall_mem_cons.mpr ⟨kX2_readPart, List.forall_mem_cons.mpr ⟨kX1_emitJump, List.forall_mem_cons.mpr ⟨kX1_aimHere, List.forall_mem_cons.mpr ⟨kX2_readPiece, List.forall_mem_cons.mpr ⟨kX2_readTerm, List.forall_mem_cons.mpr ⟨kX2_readFactor, List.forall_mem_cons.mpr ⟨kX2_isDigit, List.forall_mem_cons.mpr ⟨kX2_readNumber, List.forall_mem_cons.mpr ⟨kX1_factOf, List.forall_mem_cons.mpr ⟨kX3_hasRibbon, List.forall_mem_cons.mpr ⟨kX3_isDebt, List.forall_mem_cons.mpr ⟨kX8_byteAt, List.forall_mem_cons.mpr ⟨kX3_isHanging, List.forall_mem_cons.mpr ⟨kX3_hasRod, List.forall_mem_cons.mpr ⟨kX10_reaches, List.forall_mem_cons.mpr ⟨kX4_isTwice, List.forall_mem_cons.mpr ⟨kX7_weigh, List.forall_mem_cons.mpr ⟨kX3_hasRibbon, List.forall_mem_cons.mpr ⟨kX7_shift, List.forall_mem_cons.mpr ⟨kX4_weighAtPlaces, List.forall_mem_cons.mpr ⟨kX4_hangFrom, List.forall_mem_cons.mpr ⟨kX1_lookAt, List.forall_mem_cons.mpr ⟨kX1_ask, List.forall_mem_cons.mpr ⟨kX4_compare, List.forall_mem_cons.mpr ⟨kX7_leansTogether, List.forall_mem_cons.mpr ⟨kX7_init, List.forall_mem_cons.mpr ⟨kX5_startDay, List.forall_mem_cons.mpr ⟨kX5_weighChanges, List.forall_mem_cons.mpr ⟨kX5_canCut, List.forall_mem_cons.mpr ⟨kX5_shift, List.forall_mem_cons.mpr ⟨kX5_tryKnots, List.forall_mem_cons.mpr ⟨kX5_canKnot, List.forall_mem_cons.mpr ⟨kX7_leansOtherThan, List.forall_mem_cons.mpr ⟨kX3_hasRibbon, List.forall_mem_cons.mpr ⟨kX8_byteAt, List.forall_mem_cons.mpr ⟨kX5_mostPayable, List.forall_mem_cons.mpr ⟨kX5_findUnseen, List.forall_mem_cons.mpr ⟨kX3_isWhiteOf, List.forall_mem_cons.mpr ⟨kX5_isUnseen, List.forall_mem_cons.mpr ⟨kX7_isPicture, List.forall_mem_cons.mpr ⟨kX7_weigh, List.forall_mem_cons.mpr ⟨kX7_writeLeans, List.forall_mem_cons.mpr ⟨kX1_look, List.forall_mem_cons.mpr ⟨kX1_ask, List.forall_mem_cons.mpr ⟨kX7_shift, List.forall_mem_cons.mpr ⟨kX8_byteAt, List.forall_mem_cons.mpr ⟨kX10_isPerson, List.forall_mem_cons.mpr ⟨kX7_weigh, List.forall_mem_cons.mpr ⟨kX3_isWhiteOf, List.forall_mem_cons.mpr ⟨kX7_partOfMoment, List.forall_mem_cons.mpr ⟨kX10_leanOf, List.forall_mem_cons.mpr ⟨kX6_weighPeople, List.forall_mem_cons.mpr ⟨kX6_isTipped, List.forall_mem_cons.mpr ⟨kX6_bestFrom, List.forall_mem_cons.mpr ⟨kX6_hopeBy, List.forall_mem_cons.mpr ⟨kX6_hopeOf, List.forall_mem_cons.mpr ⟨kX6_nextPerson, List.forall_mem_cons.mpr ⟨kX3_hasRod, List.forall_mem_cons.mpr ⟨kX1_look, List.forall_mem_cons.mpr ⟨kX1_ask, List.forall_mem_cons.mpr ⟨kX3_hasRibbon, List.forall_mem_cons.mpr ⟨kX10_leanOf, List.forall_mem_cons.mpr ⟨kX7_lean, List.forall_mem_cons.mpr ⟨kX8_byteAt, List.forall_mem_cons.mpr ⟨kX10_within, List.forall_mem_cons.mpr ⟨kX8_byteAt, List.forall_mem_cons.mpr ⟨kX10_reaches, List.forall_mem_cons.mpr ⟨kX7_weigh, List.forall_mem_cons.mpr ⟨kX7_leanBeside, List.forall_mem_cons.mpr ⟨kX3_hasRibbon, List.forall_mem_cons.mpr ⟨kX9_isInQuestion, List.forall_mem_cons.mpr ⟨kX1_look, List.forall_mem_cons.mpr ⟨kX1_ask, List.forall_mem_cons.mpr ⟨kX7_wouldLean, List.forall_mem_cons.mpr ⟨kX9_startWatch, List.forall_mem_cons.mpr ⟨kX9_mayBe, List.forall_mem_cons.mpr ⟨kX3_seenRods, List.forall_mem_cons.mpr ⟨kX9_crowdBy, List.forall_mem_cons.mpr ⟨kX9_pictureOf, List.forall_mem_cons.mpr ⟨kX9_sort, List.forall_mem_cons.mpr ⟨kX9_longestStretch, List.forall_mem_cons.mpr ⟨kX7_shift, List.forall_mem_cons.mpr ⟨kX7_picture, List.forall_mem_cons.mpr ⟨kX8_init, List.forall_mem_cons.mpr ⟨kX3_init, List.forall_mem_cons.mpr ⟨kX1_init, List.forall_mem_cons.mpr ⟨kX2_init, List.forall_mem_cons.mpr ⟨kX7_init, List.forall_mem_cons.mpr ⟨kX5_init, List.forall_mem_cons.mpr ⟨kX4_init, List.forall_mem_cons.mpr ⟨kX9_init, List.forall_mem_cons.mpr ⟨kX0_init, List.forall_mem_cons.mpr ⟨kX6_init, List.forall_mem_cons.mpr ⟨kX3_addRod, List.forall_mem_cons.mpr ⟨kX3_hasRod, List.forall_mem_cons.mpr ⟨kX10_reaches, List.forall_mem_cons.mpr ⟨kX10_within, List.forall_mem_cons.mpr ⟨kX10_mayHang, List.forall_mem_cons.mpr ⟨kX3_addRibbon, List.forall_mem_cons.mpr ⟨kX10_areTwo, List.forall_mem_cons.mpr ⟨kX8_hasRoom, List.forall_mem_cons.mpr ⟨kX8_add, List.forall_mem_cons.mpr ⟨kX2_read, List.forall_mem_cons.mpr ⟨kX8_empty, List.forall_mem_cons.mpr ⟨kX1_copyFrom, List.forall_mem_cons.mpr ⟨kX7_weigh, List.forall_mem_cons.mpr ⟨kX7_lean, List.forall_mem_cons.mpr ⟨kX3_hasRibbon, List.forall_mem_cons.mpr ⟨kX1_look, List.forall_mem_cons.mpr ⟨kX1_ask, List.forall_mem_cons.mpr ⟨kX10_isPerson, List.forall_mem_cons.mpr ⟨kX3_balanceOf, List.forall_mem_cons.mpr ⟨kX3_isHanging, List.forall_mem_cons.mpr ⟨kX5_findPayment, List.forall_mem_cons.mpr ⟨kX5_carryOut, List.forall_mem_cons.mpr ⟨kX4_read, List.forall_mem_cons.mpr ⟨kX4_search, List.forall_mem_cons.mpr ⟨kX4_hang, List.forall_mem_cons.mpr ⟨kX3_seenRods, List.forall_mem_cons.mpr ⟨kX9_readPicture, List.forall_mem_cons.mpr ⟨kX9_falseLengths, List.forall_mem_cons.mpr ⟨kX9_suspectBits, List.forall_mem_cons.mpr ⟨kX8_allWithin, List.forall_mem_cons.mpr ⟨kX9_collectCases, List.forall_mem_cons.mpr ⟨kX9_findGust, List.forall_mem_cons.mpr ⟨kX5_findFraud, List.forall_mem_cons.mpr ⟨kX3_debt, List.forall_mem_cons.mpr ⟨kX0_findBest, List.forall_mem_cons.mpr ⟨kX0_cutAll, List.forall_mem_cons.mpr ⟨kX6_readPeople, List.forall_mem_cons.mpr ⟨kX6_happen, List.forall_mem_cons.mpr ⟨kJ6_bitCount_0f7a4, List.forall_mem_cons.mpr ⟨kX6_findBest, List.forall_mem_cons.mpr ⟨kX6_most, List.forall_mem_cons.mpr ⟨kX6_personAt, List.forall_mem_cons.mpr ⟨kX7_isSeenToLean, List.forall_mem_cons.mpr ⟨kX3_copyFrom, List.forall_mem_cons.mpr ⟨kX3_hanging, List.forall_mem_cons.mpr ⟨kX8_numberAt, List.forall_mem_cons.mpr ⟨kX11_lies, List.forall_mem_cons.mpr ⟨kX11_isRod, List.forall_mem_cons.mpr ⟨kX11_isArm, List.forall_mem_cons.mpr ⟨kX11_isPerson, List.forall_mem_cons.mpr ⟨kX11_adds, List.forall_mem_cons.mpr ⟨kX11_push, List.forall_mem_cons.mpr ⟨kX11_isGood, List.forall_mem_cons.mpr ⟨kX11_wrongs, List.forall_mem_cons.mpr ⟨kX11_here, List.forall_mem_cons.mpr ⟨kX11_puts, List.forall_mem_cons.mpr ⟨kX11_seesDigit, List.forall_mem_cons.mpr ⟨kX11_top, List.forall_mem_cons.mpr ⟨kX11_isTimes, List.forall_mem_cons.mpr ⟨kX11_isPlus, List.forall_mem_cons.mpr ⟨kX11_emit, List.forall_mem_cons.mpr ⟨kX11_opens, List.forall_mem_cons.mpr ⟨kX11_reads, List.forall_mem_cons.mpr ⟨kX11_isValue, List.forall_mem_cons.mpr ⟨kX11_sums, List.forall_mem_cons.mpr ⟨kX11_factor, List.forall_mem_cons.mpr ⟨kX11_stays, List.forall_mem_cons.mpr ⟨kX11_value, List.forall_mem_cons.mpr ⟨kX11_isSign, List.forall_mem_cons.mpr ⟨kX11_ends, List.forall_mem_cons.mpr ⟨kX11_joins, List.forall_mem_cons.mpr ⟨kX11_pieceOfC, List.forall_mem_cons.mpr ⟨kX11_goesBehind, List.forall_mem_cons.mpr ⟨kX11_condition, List.forall_mem_cons.mpr ⟨kX11_clause, List.forall_mem_cons.mpr ⟨kX11_worked, List.forall_mem_cons.mpr ⟨kX11_does, List.forall_mem_cons.mpr ⟨kX11_valueOf, List.forall_mem_cons.mpr ⟨kX11_works, List.forall_mem_cons.mpr ⟨kX11_tells, List.forall_mem_cons.mpr ⟨kX11_heavy, List.forall_mem_cons.mpr ⟨kX11_pushed, List.forall_mem_cons.mpr ⟨kX11_laysLeans, List.forall_mem_cons.mpr ⟨kX11_isRibbon, List.forall_mem_cons.mpr ⟨kX11_isWhiteOf, List.forall_mem_cons.mpr ⟨kX11_knots, List.forall_mem_cons.mpr ⟨kX11_canKnot, List.forall_mem_cons.mpr ⟨kX11_othersBy, List.forall_mem_cons.mpr ⟨kX11_byteAt, List.forall_mem_cons.mpr ⟨kX11_size, List.forall_mem_cons.mpr ⟨kX11_takesPlaces, List.forall_mem_cons.mpr ⟨kX11_hangsBy, List.forall_mem_cons.mpr ⟨kX11_sumOfLeans, List.forall_mem_cons.mpr ⟨kX11_goesOn, List.forall_mem_cons.mpr ⟨kX11_picture, List.forall_mem_cons.mpr ⟨kX11_canBe, List.forall_mem_cons.mpr ⟨kX11_seenMany, List.forall_mem_cons.mpr ⟨kX11_toldPicture, List.forall_mem_cons.mpr ⟨kX11_lengthsOf, List.forall_mem_cons.mpr ⟨kX11_laysFalse, List.forall_mem_cons.mpr ⟨kX11_mostAlike, List.forall_mem_cons.mpr ⟨kX11_isUnseen, List.forall_mem_cons.mpr ⟨kX11_isFraud, List.forall_mem_cons.mpr ⟨kX11_laysDebts, List.forall_mem_cons.mpr ⟨kX11_isOn, List.forall_mem_cons.mpr ⟨kX11_looksAt, List.forall_mem_cons.mpr ⟨kX11_findsRing, List.forall_mem_cons.mpr ⟨kX11_cuts, List.forall_mem_cons.mpr ⟨kX11_has, List.forall_mem_cons.mpr ⟨kX11_isTipped, List.forall_mem_cons.mpr ⟨kX11_whiteOf, List.forall_mem_cons.mpr ⟨kX11_sizeOf, List.forall_mem_cons.mpr ⟨kX11_getsBy, List.forall_mem_cons.mpr ⟨kX11_someLeans, List.forall_mem_cons.mpr ⟨kX11_hanging, List.forall_mem_cons.mpr ⟨kX11_numberAt, List.forall_mem_cons.mpr ⟨kX10_init, List.forall_mem_cons.mpr ⟨kX11_init, List.forall_mem_cons.mpr ⟨kX10_rod, List.forall_mem_cons.mpr ⟨kX11_rod, List.forall_mem_cons.mpr ⟨kX10_stiff, List.forall_mem_cons.mpr ⟨kX11_stiff, List.forall_mem_cons.mpr ⟨kX10_seen, List.forall_mem_cons.mpr ⟨kX11_seen, List.forall_mem_cons.mpr ⟨kX10_wet, List.forall_mem_cons.mpr ⟨kX11_wet, List.forall_mem_cons.mpr ⟨kX10_white, List.forall_mem_cons.mpr ⟨kX11_white, List.forall_mem_cons.mpr ⟨kX10_red, List.forall_mem_cons.mpr ⟨kX11_red, List.forall_mem_cons.mpr ⟨kX10_wind, List.forall_mem_cons.mpr ⟨kX11_wind, List.forall_mem_cons.mpr ⟨kX10_feed, List.forall_mem_cons.mpr ⟨kX11_feed, List.forall_mem_cons.mpr ⟨kX10_law, List.forall_mem_cons.mpr ⟨kX11_law, List.forall_mem_cons.mpr ⟨kX10_rodIs, List.forall_mem_cons.mpr ⟨kX11_rodIs, List.forall_mem_cons.mpr ⟨kX10_ribbon, List.forall_mem_cons.mpr ⟨kX11_ribbon, List.forall_mem_cons.mpr ⟨kX10_balance, List.forall_mem_cons.mpr ⟨kX11_balance, List.forall_mem_cons.mpr ⟨kX10_move, List.forall_mem_cons.mpr ⟨kX11_move, List.forall_mem_cons.mpr ⟨kX10_fall, List.forall_mem_cons.mpr ⟨kX11_fall, List.forall_mem_cons.mpr ⟨kX10_pay, List.forall_mem_cons.mpr ⟨kX11_pay, List.forall_mem_cons.mpr ⟨kX10_level, List.forall_mem_cons.mpr ⟨kX11_level, List.forall_mem_cons.mpr ⟨kX10_falseBy, List.forall_mem_cons.mpr ⟨kX11_falseBy, List.forall_mem_cons.mpr ⟨kX10_suspects, List.forall_mem_cons.mpr ⟨kX11_suspects, List.forall_mem_cons.mpr ⟨kX10_gust, List.forall_mem_cons.mpr ⟨kX11_gust, List.forall_mem_cons.mpr ⟨kX10_fraud, List.forall_mem_cons.mpr ⟨kX11_fraud, List.forall_mem_cons.mpr ⟨kX10_owes, List.forall_mem_cons.mpr ⟨kX11_owes, List.forall_mem_cons.mpr ⟨kX10_ring, List.forall_mem_cons.mpr ⟨kX11_ring, List.forall_mem_cons.mpr ⟨kX10_clear, List.forall_mem_cons.mpr ⟨kX11_clear, List.forall_mem_cons.mpr ⟨kX10_run, List.forall_mem_cons.mpr ⟨kX11_run, List.forall_mem_cons.mpr ⟨kX10_order, List.forall_mem_cons.mpr ⟨kX11_order, List.forall_mem_cons.mpr ⟨kX10_seed, List.forall_mem_cons.mpr ⟨kX11_seed, List.forall_mem_cons.mpr ⟨kX10_draw, List.forall_mem_cons.mpr ⟨kX11_draw, List.forall_mem_cons.mpr ⟨kX10_keep, List.forall_mem_cons.mpr ⟨kX11_keep, List.forall_mem_cons.mpr ⟨kX10_undo, List.forall_mem_cons.mpr ⟨kX11_undo, List.forall_mem_cons.mpr ⟨kX10_check, List.forall_mem_cons.mpr ⟨kX11_check, List.forall_mem_cons.mpr ⟨kX10_count, List.forall_mem_cons.mpr ⟨kX11_count, fun _ h => absurd h List.not_mem_nil⟩⟩⟩⟩⟩⟩⟩⟩⟩⟩⟩⟩⟩⟩⟩⟩⟩⟩⟩⟩⟩⟩⟩⟩⟩⟩⟩⟩⟩⟩⟩⟩⟩⟩⟩⟩⟩⟩⟩⟩⟩⟩⟩⟩⟩⟩⟩⟩⟩⟩⟩⟩⟩⟩⟩⟩⟩⟩⟩⟩⟩⟩⟩⟩⟩⟩⟩⟩⟩⟩⟩⟩⟩⟩⟩⟩⟩⟩⟩⟩⟩⟩⟩⟩⟩⟩⟩⟩⟩⟩⟩⟩⟩⟩⟩⟩⟩⟩⟩⟩⟩⟩⟩⟩⟩⟩⟩⟩⟩⟩⟩⟩⟩⟩⟩⟩⟩⟩⟩⟩⟩⟩⟩⟩⟩⟩⟩⟩⟩⟩⟩⟩⟩⟩⟩⟩⟩⟩⟩⟩⟩⟩⟩⟩⟩⟩⟩⟩⟩⟩⟩⟩⟩⟩⟩⟩⟩⟩⟩⟩⟩⟩⟩⟩⟩⟩⟩⟩⟩⟩⟩⟩⟩⟩⟩⟩⟩⟩⟩⟩⟩⟩⟩⟩⟩⟩⟩⟩⟩⟩⟩⟩⟩⟩⟩⟩⟩⟩⟩⟩⟩⟩⟩⟩⟩⟩⟩⟩⟩⟩⟩⟩⟩⟩⟩⟩⟩⟩⟩⟩⟩⟩⟩⟩⟩⟩⟩⟩⟩⟩⟩⟩⟩⟩⟩⟩⟩⟩⟩⟩⟩⟩⟩⟩⟩⟩⟩⟩⟩⟩⟩⟩⟩⟩⟩⟩⟩⟩⟩⟩⟩⟩⟩⟩⟩⟩⟩⟩⟩⟩⟩⟩⟩⟩⟩⟩⟩⟩⟩⟩⟩⟩⟩⟩⟩⟩⟩⟩⟩⟩⟩⟩⟩⟩⟩⟩⟩⟩⟩⟩⟩⟩
theorem l0_27 : mlk 0 27 = some mX0_addUp := by rfl
theorem l0_40 : mlk 0 40 = some mX0_goOn := by rfl
theorem l0_59 : mlk 0 59 = some mX10_areTwo := by rfl
theorem l0_72 : mlk 0 72 = some mX0_compare := by rfl
theorem l0_82 : mlk 0 82 = some mX0_findBest := by rfl
theorem l0_86 : mlk 0 86 = some mX0_cutRing := by rfl
theorem l0_89 : mlk 0 89 = some mX3_cutDebt := by rfl
theorem l1_33 : mlk 1 33 = some mX3_hasRibbon := by rfl
theorem l1_45 : mlk 1 45 = some mX1_lookAt := by rfl
theorem l1_49 : mlk 1 49 = some mX3_hasRod := by rfl
theorem l1_66 : mlk 1 66 = some mX1_reckon := by rfl
theorem l1_92 : mlk 1 92 = some mX1_put := by rfl
theorem l1_95 : mlk 1 95 = some mX10_within := by rfl
theorem l1_99 : mlk 1 99 = some mX1_compare := by rfl
theorem l1_102 : mlk 1 102 = some mX1_combine := by rfl
theorem l1_105 : mlk 1 105 = some mX1_emit := by rfl
theorem l2_11 : mlk 2 11 = some mX1_init := by rfl
theorem l2_32 : mlk 2 32 = some mX1_forget := by rfl
theorem l2_35 : mlk 2 35 = some mX2_readClause := by rfl
theorem l2_39 : mlk 2 39 = some mX2_take := by rfl
theorem l2_43 : mlk 2 43 = some mX8_byteAt := by rfl
theorem l2_49 : mlk 2 49 = some mX2_next := by rfl
theorem l2_53 : mlk 2 53 = some mX2_fail := by rfl
theorem l2_59 : mlk 2 59 = some mX1_startClause := by rfl
theorem l2_63 : mlk 2 63 = some mX2_readSum := by rfl
theorem l2_66 : mlk 2 66 = some mX2_open := by rfl
theorem l2_70 : mlk 2 70 = some mX1_startCondition := by rfl
theorem l2_73 : mlk 2 73 = some mX2_readCondition := by rfl
theorem l2_76 : mlk 2 76 = some mX1_emit := by rfl
theorem l2_80 : mlk 2 80 = some mX2_readPart := by rfl
theorem l2_83 : mlk 2 83 = some mX1_emitJump := by rfl
theorem l2_87 : mlk 2 87 = some mX1_aimHere := by rfl
theorem l2_90 : mlk 2 90 = some mX2_readPiece := by rfl
theorem l2_93 : mlk 2 93 = some mX2_readTerm := by rfl
theorem l2_96 : mlk 2 96 = some mX2_readFactor := by rfl
theorem l2_99 : mlk 2 99 = some mX2_isDigit := by rfl
theorem l2_102 : mlk 2 102 = some mX2_readNumber := by rfl
theorem l2_105 : mlk 2 105 = some mX1_factOf := by rfl
theorem l3_56 : mlk 3 56 = some mX3_hasRibbon := by rfl
theorem l3_60 : mlk 3 60 = some mX3_isDebt := by rfl
theorem l4_60 : mlk 4 60 = some mX8_byteAt := by rfl
theorem l4_66 : mlk 4 66 = some mX3_isHanging := by rfl
theorem l4_72 : mlk 4 72 = some mX3_hasRod := by rfl
theorem l4_75 : mlk 4 75 = some mX10_reaches := by rfl
theorem l4_78 : mlk 4 78 = some mX4_isTwice := by rfl
theorem l4_84 : mlk 4 84 = some mX7_weigh := by rfl
theorem l4_90 : mlk 4 90 = some mX3_hasRibbon := by rfl
theorem l4_103 : mlk 4 103 = some mX7_shift := by rfl
theorem l4_107 : mlk 4 107 = some mX4_weighAtPlaces := by rfl
theorem l4_116 : mlk 4 116 = some mX4_hangFrom := by rfl
theorem l4_123 : mlk 4 123 = some mX1_lookAt := by rfl
theorem l4_129 : mlk 4 129 = some mX1_ask := by rfl
theorem l4_132 : mlk 4 132 = some mX4_compare := by rfl
theorem l4_135 : mlk 4 135 = some mX7_leansTogether := by rfl
theorem l5_40 : mlk 5 40 = some mX7_init := by rfl
theorem l5_55 : mlk 5 55 = some mX5_startDay := by rfl
theorem l5_59 : mlk 5 59 = some mX5_weighChanges := by rfl
theorem l5_68 : mlk 5 68 = some mX5_canCut := by rfl
theorem l5_72 : mlk 5 72 = some mX5_shift := by rfl
theorem l5_76 : mlk 5 76 = some mX5_tryKnots := by rfl
theorem l5_79 : mlk 5 79 = some mX5_canKnot := by rfl
theorem l5_82 : mlk 5 82 = some mX7_leansOtherThan := by rfl
theorem l5_92 : mlk 5 92 = some mX3_hasRibbon := by rfl
theorem l5_99 : mlk 5 99 = some mX8_byteAt := by rfl
theorem l5_105 : mlk 5 105 = some mX5_mostPayable := by rfl
theorem l5_109 : mlk 5 109 = some mX5_findUnseen := by rfl
theorem l5_112 : mlk 5 112 = some mX3_isWhiteOf := by rfl
theorem l5_124 : mlk 5 124 = some mX5_isUnseen := by rfl
theorem l5_128 : mlk 5 128 = some mX7_isPicture := by rfl
theorem l5_132 : mlk 5 132 = some mX7_weigh := by rfl
theorem l5_136 : mlk 5 136 = some mX7_writeLeans := by rfl
theorem l5_140 : mlk 5 140 = some mX1_look := by rfl
theorem l5_146 : mlk 5 146 = some mX1_ask := by rfl
theorem l5_161 : mlk 5 161 = some mX7_shift := by rfl
theorem l6_32 : mlk 6 32 = some mX8_byteAt := by rfl
theorem l6_38 : mlk 6 38 = some mX10_isPerson := by rfl
theorem l6_48 : mlk 6 48 = some mX7_weigh := by rfl
theorem l6_57 : mlk 6 57 = some mX3_isWhiteOf := by rfl
theorem l6_64 : mlk 6 64 = some mX7_partOfMoment := by rfl
theorem l6_73 : mlk 6 73 = some mX10_leanOf := by rfl
theorem l6_82 : mlk 6 82 = some mX6_weighPeople := by rfl
theorem l6_91 : mlk 6 91 = some mX6_isTipped := by rfl
theorem l6_94 : mlk 6 94 = some mX6_bestFrom := by rfl
theorem l6_97 : mlk 6 97 = some mX6_hopeBy := by rfl
theorem l6_103 : mlk 6 103 = some mX6_hopeOf := by rfl
theorem l6_106 : mlk 6 106 = some mX6_nextPerson := by rfl
theorem l7_45 : mlk 7 45 = some mX3_hasRod := by rfl
theorem l7_52 : mlk 7 52 = some mX1_look := by rfl
theorem l7_58 : mlk 7 58 = some mX1_ask := by rfl
theorem l7_74 : mlk 7 74 = some mX3_hasRibbon := by rfl
theorem l7_83 : mlk 7 83 = some mX10_leanOf := by rfl
theorem l7_87 : mlk 7 87 = some mX7_lean := by rfl
theorem l8_19 : mlk 8 19 = some mX8_byteAt := by rfl
theorem l8_23 : mlk 8 23 = some mX10_within := by rfl
theorem l9_37 : mlk 9 37 = some mX8_byteAt := by rfl
theorem l9_43 : mlk 9 43 = some mX10_reaches := by rfl
theorem l9_50 : mlk 9 50 = some mX7_weigh := by rfl
theorem l9_66 : mlk 9 66 = some mX7_leanBeside := by rfl
theorem l9_70 : mlk 9 70 = some mX3_hasRibbon := by rfl
theorem l9_73 : mlk 9 73 = some mX9_isInQuestion := by rfl
theorem l9_79 : mlk 9 79 = some mX1_look := by rfl
theorem l9_85 : mlk 9 85 = some mX1_ask := by rfl
theorem l9_94 : mlk 9 94 = some mX7_wouldLean := by rfl
theorem l9_98 : mlk 9 98 = some mX9_startWatch := by rfl
theorem l9_101 : mlk 9 101 = some mX9_mayBe := by rfl
theorem l9_111 : mlk 9 111 = some mX3_seenRods := by rfl
theorem l9_121 : mlk 9 121 = some mX9_crowdBy := by rfl
theorem l9_131 : mlk 9 131 = some mX9_pictureOf := by rfl
theorem l9_135 : mlk 9 135 = some mX9_sort := by rfl
theorem l9_139 : mlk 9 139 = some mX9_longestStretch := by rfl
theorem l9_149 : mlk 9 149 = some mX7_shift := by rfl
theorem l9_153 : mlk 9 153 = some mX7_picture := by rfl
theorem l10_9 : mlk 10 9 = some mX8_init := by rfl
theorem l10_18 : mlk 10 18 = some mX3_init := by rfl
theorem l10_28 : mlk 10 28 = some mX1_init := by rfl
theorem l10_35 : mlk 10 35 = some mX2_init := by rfl
theorem l10_44 : mlk 10 44 = some mX7_init := by rfl
theorem l10_53 : mlk 10 53 = some mX5_init := by rfl
theorem l10_60 : mlk 10 60 = some mX4_init := by rfl
theorem l10_69 : mlk 10 69 = some mX9_init := by rfl
theorem l10_76 : mlk 10 76 = some mX0_init := by rfl
theorem l10_85 : mlk 10 85 = some mX6_init := by rfl
theorem l10_92 : mlk 10 92 = some mX3_addRod := by rfl
theorem l10_100 : mlk 10 100 = some mX3_hasRod := by rfl
theorem l10_104 : mlk 10 104 = some mX10_reaches := by rfl
theorem l10_110 : mlk 10 110 = some mX10_within := by rfl
theorem l10_125 : mlk 10 125 = some mX10_mayHang := by rfl
theorem l10_129 : mlk 10 129 = some mX3_addRibbon := by rfl
theorem l10_133 : mlk 10 133 = some mX10_areTwo := by rfl
theorem l10_140 : mlk 10 140 = some mX8_hasRoom := by rfl
theorem l10_144 : mlk 10 144 = some mX8_add := by rfl
theorem l10_151 : mlk 10 151 = some mX2_read := by rfl
theorem l10_155 : mlk 10 155 = some mX8_empty := by rfl
theorem l10_161 : mlk 10 161 = some mX1_copyFrom := by rfl
theorem l10_169 : mlk 10 169 = some mX7_weigh := by rfl
theorem l10_178 : mlk 10 178 = some mX7_lean := by rfl
theorem l10_187 : mlk 10 187 = some mX3_hasRibbon := by rfl
theorem l10_193 : mlk 10 193 = some mX1_look := by rfl
theorem l10_215 : mlk 10 215 = some mX1_ask := by rfl
theorem l10_218 : mlk 10 218 = some mX10_isPerson := by rfl
theorem l10_221 : mlk 10 221 = some mX3_balanceOf := by rfl
theorem l10_224 : mlk 10 224 = some mX3_isHanging := by rfl
theorem l10_227 : mlk 10 227 = some mX5_findPayment := by rfl
theorem l10_236 : mlk 10 236 = some mX5_carryOut := by rfl
theorem l10_242 : mlk 10 242 = some mX4_read := by rfl
theorem l10_245 : mlk 10 245 = some mX4_search := by rfl
theorem l10_248 : mlk 10 248 = some mX4_hang := by rfl
theorem l10_257 : mlk 10 257 = some mX3_seenRods := by rfl
theorem l10_261 : mlk 10 261 = some mX9_readPicture := by rfl
theorem l10_265 : mlk 10 265 = some mX9_falseLengths := by rfl
theorem l10_270 : mlk 10 270 = some mX9_suspectBits := by rfl
theorem l10_276 : mlk 10 276 = some mX8_allWithin := by rfl
theorem l10_279 : mlk 10 279 = some mX9_collectCases := by rfl
theorem l10_282 : mlk 10 282 = some mX9_findGust := by rfl
theorem l10_292 : mlk 10 292 = some mX5_findFraud := by rfl
theorem l10_296 : mlk 10 296 = some mX3_debt := by rfl
theorem l10_299 : mlk 10 299 = some mX0_findBest := by rfl
theorem l10_309 : mlk 10 309 = some mX0_cutAll := by rfl
theorem l10_312 : mlk 10 312 = some mX6_readPeople := by rfl
theorem l10_315 : mlk 10 315 = some mX6_happen := by rfl
theorem l10_325 : mlk 10 325 = some mJ6_bitCount_0f7a4 := by rfl
theorem l10_330 : mlk 10 330 = some mX6_findBest := by rfl
theorem l10_332 : mlk 10 332 = some mX6_most := by rfl
theorem l10_335 : mlk 10 335 = some mX6_personAt := by rfl
theorem l10_339 : mlk 10 339 = some mX7_isSeenToLean := by rfl
theorem l10_342 : mlk 10 342 = some mX3_copyFrom := by rfl
theorem l10_348 : mlk 10 348 = some mX3_hanging := by rfl
theorem l10_351 : mlk 10 351 = some mX8_numberAt := by rfl
theorem l11_203 : mlk 11 203 = some mX11_lies := by rfl
theorem l11_216 : mlk 11 216 = some mX11_isRod := by rfl
theorem l11_220 : mlk 11 220 = some mX11_isArm := by rfl
theorem l11_227 : mlk 11 227 = some mX11_isPerson := by rfl
theorem l11_230 : mlk 11 230 = some mX11_adds := by rfl
theorem l11_240 : mlk 11 240 = some mX11_push := by rfl
theorem l11_253 : mlk 11 253 = some mX11_isGood := by rfl
theorem l11_266 : mlk 11 266 = some mX11_wrongs := by rfl
theorem l11_270 : mlk 11 270 = some mX11_here := by rfl
theorem l11_274 : mlk 11 274 = some mX11_puts := by rfl
theorem l11_281 : mlk 11 281 = some mX11_seesDigit := by rfl
theorem l11_284 : mlk 11 284 = some mX11_top := by rfl
theorem l11_287 : mlk 11 287 = some mX11_isTimes := by rfl
theorem l11_290 : mlk 11 290 = some mX11_isPlus := by rfl
theorem l11_293 : mlk 11 293 = some mX11_emit := by rfl
theorem l11_296 : mlk 11 296 = some mX11_opens := by rfl
theorem l11_299 : mlk 11 299 = some mX11_reads := by rfl
theorem l11_302 : mlk 11 302 = some mX11_isValue := by rfl
theorem l11_305 : mlk 11 305 = some mX11_sums := by rfl
theorem l11_313 : mlk 11 313 = some mX11_factor := by rfl
theorem l11_316 : mlk 11 316 = some mX11_stays := by rfl
theorem l11_319 : mlk 11 319 = some mX11_value := by rfl
theorem l11_322 : mlk 11 322 = some mX11_isSign := by rfl
theorem l11_325 : mlk 11 325 = some mX11_ends := by rfl
theorem l11_328 : mlk 11 328 = some mX11_joins := by rfl
theorem l11_334 : mlk 11 334 = some mX11_pieceOfC := by rfl
theorem l11_337 : mlk 11 337 = some mX11_goesBehind := by rfl
theorem l11_343 : mlk 11 343 = some mX11_condition := by rfl
theorem l11_348 : mlk 11 348 = some mX11_clause := by rfl
theorem l11_357 : mlk 11 357 = some mX11_worked := by rfl
theorem l11_361 : mlk 11 361 = some mX11_does := by rfl
theorem l11_364 : mlk 11 364 = some mX11_valueOf := by rfl
theorem l11_368 : mlk 11 368 = some mX11_works := by rfl
theorem l11_371 : mlk 11 371 = some mX11_tells := by rfl
theorem l11_375 : mlk 11 375 = some mX11_heavy := by rfl
theorem l11_378 : mlk 11 378 = some mX11_pushed := by rfl
theorem l11_381 : mlk 11 381 = some mX11_laysLeans := by rfl
theorem l11_387 : mlk 11 387 = some mX11_isRibbon := by rfl
theorem l11_390 : mlk 11 390 = some mX11_isWhiteOf := by rfl
theorem l11_394 : mlk 11 394 = some mX11_knots := by rfl
theorem l11_404 : mlk 11 404 = some mX11_canKnot := by rfl
theorem l11_408 : mlk 11 408 = some mX11_othersBy := by rfl
theorem l11_411 : mlk 11 411 = some mX11_byteAt := by rfl
theorem l11_414 : mlk 11 414 = some mX11_size := by rfl
theorem l11_419 : mlk 11 419 = some mX11_takesPlaces := by rfl
theorem l11_423 : mlk 11 423 = some mX11_hangsBy := by rfl
theorem l11_426 : mlk 11 426 = some mX11_sumOfLeans := by rfl
theorem l11_429 : mlk 11 429 = some mX11_goesOn := by rfl
theorem l11_432 : mlk 11 432 = some mX11_picture := by rfl
theorem l11_436 : mlk 11 436 = some mX11_canBe := by rfl
theorem l11_440 : mlk 11 440 = some mX11_seenMany := by rfl
theorem l11_443 : mlk 11 443 = some mX11_toldPicture := by rfl
theorem l11_447 : mlk 11 447 = some mX11_lengthsOf := by rfl
theorem l11_456 : mlk 11 456 = some mX11_laysFalse := by rfl
theorem l11_460 : mlk 11 460 = some mX11_mostAlike := by rfl
theorem l11_463 : mlk 11 463 = some mX11_isUnseen := by rfl
theorem l11_466 : mlk 11 466 = some mX11_isFraud := by rfl
theorem l11_470 : mlk 11 470 = some mX11_laysDebts := by rfl
theorem l11_479 : mlk 11 479 = some mX11_isOn := by rfl
theorem l11_482 : mlk 11 482 = some mX11_looksAt := by rfl
theorem l11_485 : mlk 11 485 = some mX11_findsRing := by rfl
theorem l11_488 : mlk 11 488 = some mX11_cuts := by rfl
theorem l11_491 : mlk 11 491 = some mX11_has := by rfl
theorem l11_496 : mlk 11 496 = some mX11_isTipped := by rfl
theorem l11_499 : mlk 11 499 = some mX11_whiteOf := by rfl
theorem l11_504 : mlk 11 504 = some mX11_sizeOf := by rfl
theorem l11_507 : mlk 11 507 = some mX11_getsBy := by rfl
theorem l11_516 : mlk 11 516 = some mX11_someLeans := by rfl
theorem l11_534 : mlk 11 534 = some mX11_hanging := by rfl
theorem l11_537 : mlk 11 537 = some mX11_numberAt := by rfl
theorem l99_9 : mlk 99 9 = some mX10_init := by rfl
theorem l99_12 : mlk 99 12 = some mX11_init := by rfl
theorem l99_13 : mlk 99 13 = some mX10_rod := by rfl
theorem l99_17 : mlk 99 17 = some mX11_rod := by rfl
theorem l99_18 : mlk 99 18 = some mX10_stiff := by rfl
theorem l99_22 : mlk 99 22 = some mX11_stiff := by rfl
theorem l99_23 : mlk 99 23 = some mX10_seen := by rfl
theorem l99_27 : mlk 99 27 = some mX11_seen := by rfl
theorem l99_28 : mlk 99 28 = some mX10_wet := by rfl
theorem l99_31 : mlk 99 31 = some mX11_wet := by rfl
theorem l99_32 : mlk 99 32 = some mX10_white := by rfl
theorem l99_36 : mlk 99 36 = some mX11_white := by rfl
theorem l99_37 : mlk 99 37 = some mX10_red := by rfl
theorem l99_41 : mlk 99 41 = some mX11_red := by rfl
theorem l99_42 : mlk 99 42 = some mX10_wind := by rfl
theorem l99_46 : mlk 99 46 = some mX11_wind := by rfl
theorem l99_47 : mlk 99 47 = some mX10_feed := by rfl
theorem l99_50 : mlk 99 50 = some mX11_feed := by rfl
theorem l99_51 : mlk 99 51 = some mX10_law := by rfl
theorem l99_55 : mlk 99 55 = some mX11_law := by rfl
theorem l99_56 : mlk 99 56 = some mX10_rodIs := by rfl
theorem l99_59 : mlk 99 59 = some mX11_rodIs := by rfl
theorem l99_60 : mlk 99 60 = some mX10_ribbon := by rfl
theorem l99_63 : mlk 99 63 = some mX11_ribbon := by rfl
theorem l99_64 : mlk 99 64 = some mX10_balance := by rfl
theorem l99_67 : mlk 99 67 = some mX11_balance := by rfl
theorem l99_68 : mlk 99 68 = some mX10_move := by rfl
theorem l99_72 : mlk 99 72 = some mX11_move := by rfl
theorem l99_73 : mlk 99 73 = some mX10_fall := by rfl
theorem l99_76 : mlk 99 76 = some mX11_fall := by rfl
theorem l99_77 : mlk 99 77 = some mX10_pay := by rfl
theorem l99_80 : mlk 99 80 = some mX11_pay := by rfl
theorem l99_81 : mlk 99 81 = some mX10_level := by rfl
theorem l99_84 : mlk 99 84 = some mX11_level := by rfl
theorem l99_85 : mlk 99 85 = some mX10_falseBy := by rfl
theorem l99_88 : mlk 99 88 = some mX11_falseBy := by rfl
theorem l99_89 : mlk 99 89 = some mX10_suspects := by rfl
theorem l99_93 : mlk 99 93 = some mX11_suspects := by rfl
theorem l99_94 : mlk 99 94 = some mX10_gust := by rfl
theorem l99_97 : mlk 99 97 = some mX11_gust := by rfl
theorem l99_98 : mlk 99 98 = some mX10_fraud := by rfl
theorem l99_101 : mlk 99 101 = some mX11_fraud := by rfl
theorem l99_102 : mlk 99 102 = some mX10_owes := by rfl
theorem l99_105 : mlk 99 105 = some mX11_owes := by rfl
theorem l99_106 : mlk 99 106 = some mX10_ring := by rfl
theorem l99_109 : mlk 99 109 = some mX11_ring := by rfl
theorem l99_110 : mlk 99 110 = some mX10_clear := by rfl
theorem l99_114 : mlk 99 114 = some mX11_clear := by rfl
theorem l99_115 : mlk 99 115 = some mX10_run := by rfl
theorem l99_119 : mlk 99 119 = some mX11_run := by rfl
theorem l99_120 : mlk 99 120 = some mX10_order := by rfl
theorem l99_123 : mlk 99 123 = some mX11_order := by rfl
theorem l99_124 : mlk 99 124 = some mX10_seed := by rfl
theorem l99_127 : mlk 99 127 = some mX11_seed := by rfl
theorem l99_128 : mlk 99 128 = some mX10_draw := by rfl
theorem l99_131 : mlk 99 131 = some mX11_draw := by rfl
theorem l99_132 : mlk 99 132 = some mX10_keep := by rfl
theorem l99_135 : mlk 99 135 = some mX11_keep := by rfl
theorem l99_136 : mlk 99 136 = some mX10_undo := by rfl
theorem l99_140 : mlk 99 140 = some mX11_undo := by rfl
theorem l99_141 : mlk 99 141 = some mX10_check := by rfl
theorem l99_144 : mlk 99 144 = some mX11_check := by rfl
theorem l99_145 : mlk 99 145 = some mX10_count := by rfl
theorem l99_148 : mlk 99 148 = some mX11_count := by rfl
end
section
def jTab : List (Nat × Nat × Nat × Nat) := [(0, 3, 5, 501), (0, 66, 2, 1115), (0, 76, 4, 1120), (1, 3, 5, 261), (1, 80, 2, 812), (1, 86, 1, 796), (1, 109, 4, 762), (2, 3, 5, 306), (3, 3, 5, 148), (3, 64, 2, 1138), (3, 70, 4, 1229), (4, 3, 5, 416), (4, 47, 2, 917), (4, 53, 1, 918), (4, 139, 4, 956), (5, 3, 5, 365), (5, 115, 1, 1071), (5, 121, 2, 1072), (6, 3, 5, 530), (6, 77, 3, 1168), (6, 100, 1, 1195), (7, 3, 5, 331), (7, 94, 3, 953), (8, 3, 5, 133), (9, 3, 5, 462), (9, 157, 2, 1052), (9, 163, 1, 1056), (10, 1, 5, 125), (10, 357, 2, 822), (10, 362, 1, 823), (11, 1, 5, 1255)]
def jNm : Nat → MethodName := fun j => match j with
  | 1 => Lib.Math.max.name
  | 2 => Lib.Math.min.name
  | 3 => Lib.Math.abs.name
  | 4 => arraycopyName
  | _ => objectInit
def jlk (o idx : Nat) : Option Nat := (jTab.find? (fun q => q.1 == o && q.2.1 == idx)).map (fun q => q.2.2.1)
def jlkB (q : Nat × Nat × Nat × Nat) : Bool := match q with
  | (o, idx, j, p) => gat p (.methodLink (cn o) idx (jNm j))
theorem jTab_ok : jTab.all jlkB = true := by decide +kernel
theorem j0_3 : jlk 0 3 = some 5 := by decide +kernel
theorem j0_66 : jlk 0 66 = some 2 := by decide +kernel
theorem j0_76 : jlk 0 76 = some 4 := by decide +kernel
theorem j1_3 : jlk 1 3 = some 5 := by decide +kernel
theorem j1_80 : jlk 1 80 = some 2 := by decide +kernel
theorem j1_86 : jlk 1 86 = some 1 := by decide +kernel
theorem j1_109 : jlk 1 109 = some 4 := by decide +kernel
theorem j2_3 : jlk 2 3 = some 5 := by decide +kernel
theorem j3_3 : jlk 3 3 = some 5 := by decide +kernel
theorem j3_64 : jlk 3 64 = some 2 := by decide +kernel
theorem j3_70 : jlk 3 70 = some 4 := by decide +kernel
theorem j4_3 : jlk 4 3 = some 5 := by decide +kernel
theorem j4_47 : jlk 4 47 = some 2 := by decide +kernel
theorem j4_53 : jlk 4 53 = some 1 := by decide +kernel
theorem j4_139 : jlk 4 139 = some 4 := by decide +kernel
theorem j5_3 : jlk 5 3 = some 5 := by decide +kernel
theorem j5_115 : jlk 5 115 = some 1 := by decide +kernel
theorem j5_121 : jlk 5 121 = some 2 := by decide +kernel
theorem j6_3 : jlk 6 3 = some 5 := by decide +kernel
theorem j6_77 : jlk 6 77 = some 3 := by decide +kernel
theorem j6_100 : jlk 6 100 = some 1 := by decide +kernel
theorem j7_3 : jlk 7 3 = some 5 := by decide +kernel
theorem j7_94 : jlk 7 94 = some 3 := by decide +kernel
theorem j8_3 : jlk 8 3 = some 5 := by decide +kernel
theorem j9_3 : jlk 9 3 = some 5 := by decide +kernel
theorem j9_157 : jlk 9 157 = some 2 := by decide +kernel
theorem j9_163 : jlk 9 163 = some 1 := by decide +kernel
theorem j10_1 : jlk 10 1 = some 5 := by decide +kernel
theorem j10_357 : jlk 10 357 = some 2 := by decide +kernel
theorem j10_362 : jlk 10 362 = some 1 := by decide +kernel
theorem j11_1 : jlk 11 1 = some 5 := by decide +kernel
theorem jn0_27 : jlk 0 27 = none := by decide +kernel
theorem jn0_40 : jlk 0 40 = none := by decide +kernel
theorem jn0_59 : jlk 0 59 = none := by decide +kernel
theorem jn0_72 : jlk 0 72 = none := by decide +kernel
theorem jn0_82 : jlk 0 82 = none := by decide +kernel
theorem jn0_86 : jlk 0 86 = none := by decide +kernel
theorem jn0_89 : jlk 0 89 = none := by decide +kernel
theorem jn1_33 : jlk 1 33 = none := by decide +kernel
theorem jn1_45 : jlk 1 45 = none := by decide +kernel
theorem jn1_49 : jlk 1 49 = none := by decide +kernel
theorem jn1_66 : jlk 1 66 = none := by decide +kernel
theorem jn1_92 : jlk 1 92 = none := by decide +kernel
theorem jn1_95 : jlk 1 95 = none := by decide +kernel
theorem jn1_99 : jlk 1 99 = none := by decide +kernel
theorem jn1_102 : jlk 1 102 = none := by decide +kernel
theorem jn1_105 : jlk 1 105 = none := by decide +kernel
theorem jn2_11 : jlk 2 11 = none := by decide +kernel
theorem jn2_32 : jlk 2 32 = none := by decide +kernel
theorem jn2_35 : jlk 2 35 = none := by decide +kernel
theorem jn2_39 : jlk 2 39 = none := by decide +kernel
theorem jn2_43 : jlk 2 43 = none := by decide +kernel
theorem jn2_49 : jlk 2 49 = none := by decide +kernel
theorem jn2_53 : jlk 2 53 = none := by decide +kernel
theorem jn2_59 : jlk 2 59 = none := by decide +kernel
theorem jn2_63 : jlk 2 63 = none := by decide +kernel
theorem jn2_66 : jlk 2 66 = none := by decide +kernel
theorem jn2_70 : jlk 2 70 = none := by decide +kernel
theorem jn2_73 : jlk 2 73 = none := by decide +kernel
theorem jn2_76 : jlk 2 76 = none := by decide +kernel
theorem jn2_80 : jlk 2 80 = none := by decide +kernel
theorem jn2_83 : jlk 2 83 = none := by decide +kernel
theorem jn2_87 : jlk 2 87 = none := by decide +kernel
theorem jn2_90 : jlk 2 90 = none := by decide +kernel
theorem jn2_93 : jlk 2 93 = none := by decide +kernel
theorem jn2_96 : jlk 2 96 = none := by decide +kernel
theorem jn2_99 : jlk 2 99 = none := by decide +kernel
theorem jn2_102 : jlk 2 102 = none := by decide +kernel
theorem jn2_105 : jlk 2 105 = none := by decide +kernel
theorem jn3_56 : jlk 3 56 = none := by decide +kernel
theorem jn3_60 : jlk 3 60 = none := by decide +kernel
theorem jn4_60 : jlk 4 60 = none := by decide +kernel
theorem jn4_66 : jlk 4 66 = none := by decide +kernel
theorem jn4_72 : jlk 4 72 = none := by decide +kernel
theorem jn4_75 : jlk 4 75 = none := by decide +kernel
theorem jn4_78 : jlk 4 78 = none := by decide +kernel
theorem jn4_84 : jlk 4 84 = none := by decide +kernel
theorem jn4_90 : jlk 4 90 = none := by decide +kernel
theorem jn4_103 : jlk 4 103 = none := by decide +kernel
theorem jn4_107 : jlk 4 107 = none := by decide +kernel
theorem jn4_116 : jlk 4 116 = none := by decide +kernel
theorem jn4_123 : jlk 4 123 = none := by decide +kernel
theorem jn4_129 : jlk 4 129 = none := by decide +kernel
theorem jn4_132 : jlk 4 132 = none := by decide +kernel
theorem jn4_135 : jlk 4 135 = none := by decide +kernel
theorem jn5_40 : jlk 5 40 = none := by decide +kernel
theorem jn5_55 : jlk 5 55 = none := by decide +kernel
theorem jn5_59 : jlk 5 59 = none := by decide +kernel
theorem jn5_68 : jlk 5 68 = none := by decide +kernel
theorem jn5_72 : jlk 5 72 = none := by decide +kernel
theorem jn5_76 : jlk 5 76 = none := by decide +kernel
theorem jn5_79 : jlk 5 79 = none := by decide +kernel
theorem jn5_82 : jlk 5 82 = none := by decide +kernel
theorem jn5_92 : jlk 5 92 = none := by decide +kernel
theorem jn5_99 : jlk 5 99 = none := by decide +kernel
theorem jn5_105 : jlk 5 105 = none := by decide +kernel
theorem jn5_109 : jlk 5 109 = none := by decide +kernel
theorem jn5_112 : jlk 5 112 = none := by decide +kernel
theorem jn5_124 : jlk 5 124 = none := by decide +kernel
theorem jn5_128 : jlk 5 128 = none := by decide +kernel
theorem jn5_132 : jlk 5 132 = none := by decide +kernel
theorem jn5_136 : jlk 5 136 = none := by decide +kernel
theorem jn5_140 : jlk 5 140 = none := by decide +kernel
theorem jn5_146 : jlk 5 146 = none := by decide +kernel
theorem jn5_161 : jlk 5 161 = none := by decide +kernel
theorem jn6_32 : jlk 6 32 = none := by decide +kernel
theorem jn6_38 : jlk 6 38 = none := by decide +kernel
theorem jn6_48 : jlk 6 48 = none := by decide +kernel
theorem jn6_57 : jlk 6 57 = none := by decide +kernel
theorem jn6_64 : jlk 6 64 = none := by decide +kernel
theorem jn6_73 : jlk 6 73 = none := by decide +kernel
theorem jn6_82 : jlk 6 82 = none := by decide +kernel
theorem jn6_91 : jlk 6 91 = none := by decide +kernel
theorem jn6_94 : jlk 6 94 = none := by decide +kernel
theorem jn6_97 : jlk 6 97 = none := by decide +kernel
theorem jn6_103 : jlk 6 103 = none := by decide +kernel
theorem jn6_106 : jlk 6 106 = none := by decide +kernel
theorem jn7_45 : jlk 7 45 = none := by decide +kernel
theorem jn7_52 : jlk 7 52 = none := by decide +kernel
theorem jn7_58 : jlk 7 58 = none := by decide +kernel
theorem jn7_74 : jlk 7 74 = none := by decide +kernel
theorem jn7_83 : jlk 7 83 = none := by decide +kernel
theorem jn7_87 : jlk 7 87 = none := by decide +kernel
theorem jn8_19 : jlk 8 19 = none := by decide +kernel
theorem jn8_23 : jlk 8 23 = none := by decide +kernel
theorem jn9_37 : jlk 9 37 = none := by decide +kernel
theorem jn9_43 : jlk 9 43 = none := by decide +kernel
theorem jn9_50 : jlk 9 50 = none := by decide +kernel
theorem jn9_66 : jlk 9 66 = none := by decide +kernel
theorem jn9_70 : jlk 9 70 = none := by decide +kernel
theorem jn9_73 : jlk 9 73 = none := by decide +kernel
theorem jn9_79 : jlk 9 79 = none := by decide +kernel
theorem jn9_85 : jlk 9 85 = none := by decide +kernel
theorem jn9_94 : jlk 9 94 = none := by decide +kernel
theorem jn9_98 : jlk 9 98 = none := by decide +kernel
theorem jn9_101 : jlk 9 101 = none := by decide +kernel
theorem jn9_111 : jlk 9 111 = none := by decide +kernel
theorem jn9_121 : jlk 9 121 = none := by decide +kernel
theorem jn9_131 : jlk 9 131 = none := by decide +kernel
theorem jn9_135 : jlk 9 135 = none := by decide +kernel
theorem jn9_139 : jlk 9 139 = none := by decide +kernel
theorem jn9_149 : jlk 9 149 = none := by decide +kernel
theorem jn9_153 : jlk 9 153 = none := by decide +kernel
theorem jn10_9 : jlk 10 9 = none := by decide +kernel
theorem jn10_18 : jlk 10 18 = none := by decide +kernel
theorem jn10_28 : jlk 10 28 = none := by decide +kernel
theorem jn10_35 : jlk 10 35 = none := by decide +kernel
theorem jn10_44 : jlk 10 44 = none := by decide +kernel
theorem jn10_53 : jlk 10 53 = none := by decide +kernel
theorem jn10_60 : jlk 10 60 = none := by decide +kernel
theorem jn10_69 : jlk 10 69 = none := by decide +kernel
theorem jn10_76 : jlk 10 76 = none := by decide +kernel
theorem jn10_85 : jlk 10 85 = none := by decide +kernel
theorem jn10_92 : jlk 10 92 = none := by decide +kernel
theorem jn10_100 : jlk 10 100 = none := by decide +kernel
theorem jn10_104 : jlk 10 104 = none := by decide +kernel
theorem jn10_110 : jlk 10 110 = none := by decide +kernel
theorem jn10_125 : jlk 10 125 = none := by decide +kernel
theorem jn10_129 : jlk 10 129 = none := by decide +kernel
theorem jn10_133 : jlk 10 133 = none := by decide +kernel
theorem jn10_140 : jlk 10 140 = none := by decide +kernel
theorem jn10_144 : jlk 10 144 = none := by decide +kernel
theorem jn10_151 : jlk 10 151 = none := by decide +kernel
theorem jn10_155 : jlk 10 155 = none := by decide +kernel
theorem jn10_161 : jlk 10 161 = none := by decide +kernel
theorem jn10_169 : jlk 10 169 = none := by decide +kernel
theorem jn10_178 : jlk 10 178 = none := by decide +kernel
theorem jn10_187 : jlk 10 187 = none := by decide +kernel
theorem jn10_193 : jlk 10 193 = none := by decide +kernel
theorem jn10_215 : jlk 10 215 = none := by decide +kernel
theorem jn10_218 : jlk 10 218 = none := by decide +kernel
theorem jn10_221 : jlk 10 221 = none := by decide +kernel
theorem jn10_224 : jlk 10 224 = none := by decide +kernel
theorem jn10_227 : jlk 10 227 = none := by decide +kernel
theorem jn10_236 : jlk 10 236 = none := by decide +kernel
theorem jn10_242 : jlk 10 242 = none := by decide +kernel
theorem jn10_245 : jlk 10 245 = none := by decide +kernel
theorem jn10_248 : jlk 10 248 = none := by decide +kernel
theorem jn10_257 : jlk 10 257 = none := by decide +kernel
theorem jn10_261 : jlk 10 261 = none := by decide +kernel
theorem jn10_265 : jlk 10 265 = none := by decide +kernel
theorem jn10_270 : jlk 10 270 = none := by decide +kernel
theorem jn10_276 : jlk 10 276 = none := by decide +kernel
theorem jn10_279 : jlk 10 279 = none := by decide +kernel
theorem jn10_282 : jlk 10 282 = none := by decide +kernel
theorem jn10_292 : jlk 10 292 = none := by decide +kernel
theorem jn10_296 : jlk 10 296 = none := by decide +kernel
theorem jn10_299 : jlk 10 299 = none := by decide +kernel
theorem jn10_309 : jlk 10 309 = none := by decide +kernel
theorem jn10_312 : jlk 10 312 = none := by decide +kernel
theorem jn10_315 : jlk 10 315 = none := by decide +kernel
theorem jn10_325 : jlk 10 325 = none := by decide +kernel
theorem jn10_330 : jlk 10 330 = none := by decide +kernel
theorem jn10_332 : jlk 10 332 = none := by decide +kernel
theorem jn10_335 : jlk 10 335 = none := by decide +kernel
theorem jn10_339 : jlk 10 339 = none := by decide +kernel
theorem jn10_342 : jlk 10 342 = none := by decide +kernel
theorem jn10_348 : jlk 10 348 = none := by decide +kernel
theorem jn10_351 : jlk 10 351 = none := by decide +kernel
theorem jn11_203 : jlk 11 203 = none := by decide +kernel
theorem jn11_216 : jlk 11 216 = none := by decide +kernel
theorem jn11_220 : jlk 11 220 = none := by decide +kernel
theorem jn11_227 : jlk 11 227 = none := by decide +kernel
theorem jn11_230 : jlk 11 230 = none := by decide +kernel
theorem jn11_240 : jlk 11 240 = none := by decide +kernel
theorem jn11_253 : jlk 11 253 = none := by decide +kernel
theorem jn11_266 : jlk 11 266 = none := by decide +kernel
theorem jn11_270 : jlk 11 270 = none := by decide +kernel
theorem jn11_274 : jlk 11 274 = none := by decide +kernel
theorem jn11_281 : jlk 11 281 = none := by decide +kernel
theorem jn11_284 : jlk 11 284 = none := by decide +kernel
theorem jn11_287 : jlk 11 287 = none := by decide +kernel
theorem jn11_290 : jlk 11 290 = none := by decide +kernel
theorem jn11_293 : jlk 11 293 = none := by decide +kernel
theorem jn11_296 : jlk 11 296 = none := by decide +kernel
theorem jn11_299 : jlk 11 299 = none := by decide +kernel
theorem jn11_302 : jlk 11 302 = none := by decide +kernel
theorem jn11_305 : jlk 11 305 = none := by decide +kernel
theorem jn11_313 : jlk 11 313 = none := by decide +kernel
theorem jn11_316 : jlk 11 316 = none := by decide +kernel
theorem jn11_319 : jlk 11 319 = none := by decide +kernel
theorem jn11_322 : jlk 11 322 = none := by decide +kernel
theorem jn11_325 : jlk 11 325 = none := by decide +kernel
theorem jn11_328 : jlk 11 328 = none := by decide +kernel
theorem jn11_334 : jlk 11 334 = none := by decide +kernel
theorem jn11_337 : jlk 11 337 = none := by decide +kernel
theorem jn11_343 : jlk 11 343 = none := by decide +kernel
theorem jn11_348 : jlk 11 348 = none := by decide +kernel
theorem jn11_357 : jlk 11 357 = none := by decide +kernel
theorem jn11_361 : jlk 11 361 = none := by decide +kernel
theorem jn11_364 : jlk 11 364 = none := by decide +kernel
theorem jn11_368 : jlk 11 368 = none := by decide +kernel
theorem jn11_371 : jlk 11 371 = none := by decide +kernel
theorem jn11_375 : jlk 11 375 = none := by decide +kernel
theorem jn11_378 : jlk 11 378 = none := by decide +kernel
theorem jn11_381 : jlk 11 381 = none := by decide +kernel
theorem jn11_387 : jlk 11 387 = none := by decide +kernel
theorem jn11_390 : jlk 11 390 = none := by decide +kernel
theorem jn11_394 : jlk 11 394 = none := by decide +kernel
theorem jn11_404 : jlk 11 404 = none := by decide +kernel
theorem jn11_408 : jlk 11 408 = none := by decide +kernel
theorem jn11_411 : jlk 11 411 = none := by decide +kernel
theorem jn11_414 : jlk 11 414 = none := by decide +kernel
theorem jn11_419 : jlk 11 419 = none := by decide +kernel
theorem jn11_423 : jlk 11 423 = none := by decide +kernel
theorem jn11_426 : jlk 11 426 = none := by decide +kernel
theorem jn11_429 : jlk 11 429 = none := by decide +kernel
theorem jn11_432 : jlk 11 432 = none := by decide +kernel
theorem jn11_436 : jlk 11 436 = none := by decide +kernel
theorem jn11_440 : jlk 11 440 = none := by decide +kernel
theorem jn11_443 : jlk 11 443 = none := by decide +kernel
theorem jn11_447 : jlk 11 447 = none := by decide +kernel
theorem jn11_456 : jlk 11 456 = none := by decide +kernel
theorem jn11_460 : jlk 11 460 = none := by decide +kernel
theorem jn11_463 : jlk 11 463 = none := by decide +kernel
theorem jn11_466 : jlk 11 466 = none := by decide +kernel
theorem jn11_470 : jlk 11 470 = none := by decide +kernel
theorem jn11_479 : jlk 11 479 = none := by decide +kernel
theorem jn11_482 : jlk 11 482 = none := by decide +kernel
theorem jn11_485 : jlk 11 485 = none := by decide +kernel
theorem jn11_488 : jlk 11 488 = none := by decide +kernel
theorem jn11_491 : jlk 11 491 = none := by decide +kernel
theorem jn11_496 : jlk 11 496 = none := by decide +kernel
theorem jn11_499 : jlk 11 499 = none := by decide +kernel
theorem jn11_504 : jlk 11 504 = none := by decide +kernel
theorem jn11_507 : jlk 11 507 = none := by decide +kernel
theorem jn11_516 : jlk 11 516 = none := by decide +kernel
theorem jn11_534 : jlk 11 534 = none := by decide +kernel
theorem jn11_537 : jlk 11 537 = none := by decide +kernel
theorem jn99_9 : jlk 99 9 = none := by decide +kernel
theorem jn99_12 : jlk 99 12 = none := by decide +kernel
theorem jn99_13 : jlk 99 13 = none := by decide +kernel
theorem jn99_17 : jlk 99 17 = none := by decide +kernel
theorem jn99_18 : jlk 99 18 = none := by decide +kernel
theorem jn99_22 : jlk 99 22 = none := by decide +kernel
theorem jn99_23 : jlk 99 23 = none := by decide +kernel
theorem jn99_27 : jlk 99 27 = none := by decide +kernel
theorem jn99_28 : jlk 99 28 = none := by decide +kernel
theorem jn99_31 : jlk 99 31 = none := by decide +kernel
theorem jn99_32 : jlk 99 32 = none := by decide +kernel
theorem jn99_36 : jlk 99 36 = none := by decide +kernel
theorem jn99_37 : jlk 99 37 = none := by decide +kernel
theorem jn99_41 : jlk 99 41 = none := by decide +kernel
theorem jn99_42 : jlk 99 42 = none := by decide +kernel
theorem jn99_46 : jlk 99 46 = none := by decide +kernel
theorem jn99_47 : jlk 99 47 = none := by decide +kernel
theorem jn99_50 : jlk 99 50 = none := by decide +kernel
theorem jn99_51 : jlk 99 51 = none := by decide +kernel
theorem jn99_55 : jlk 99 55 = none := by decide +kernel
theorem jn99_56 : jlk 99 56 = none := by decide +kernel
theorem jn99_59 : jlk 99 59 = none := by decide +kernel
theorem jn99_60 : jlk 99 60 = none := by decide +kernel
theorem jn99_63 : jlk 99 63 = none := by decide +kernel
theorem jn99_64 : jlk 99 64 = none := by decide +kernel
theorem jn99_67 : jlk 99 67 = none := by decide +kernel
theorem jn99_68 : jlk 99 68 = none := by decide +kernel
theorem jn99_72 : jlk 99 72 = none := by decide +kernel
theorem jn99_73 : jlk 99 73 = none := by decide +kernel
theorem jn99_76 : jlk 99 76 = none := by decide +kernel
theorem jn99_77 : jlk 99 77 = none := by decide +kernel
theorem jn99_80 : jlk 99 80 = none := by decide +kernel
theorem jn99_81 : jlk 99 81 = none := by decide +kernel
theorem jn99_84 : jlk 99 84 = none := by decide +kernel
theorem jn99_85 : jlk 99 85 = none := by decide +kernel
theorem jn99_88 : jlk 99 88 = none := by decide +kernel
theorem jn99_89 : jlk 99 89 = none := by decide +kernel
theorem jn99_93 : jlk 99 93 = none := by decide +kernel
theorem jn99_94 : jlk 99 94 = none := by decide +kernel
theorem jn99_97 : jlk 99 97 = none := by decide +kernel
theorem jn99_98 : jlk 99 98 = none := by decide +kernel
theorem jn99_101 : jlk 99 101 = none := by decide +kernel
theorem jn99_102 : jlk 99 102 = none := by decide +kernel
theorem jn99_105 : jlk 99 105 = none := by decide +kernel
theorem jn99_106 : jlk 99 106 = none := by decide +kernel
theorem jn99_109 : jlk 99 109 = none := by decide +kernel
theorem jn99_110 : jlk 99 110 = none := by decide +kernel
theorem jn99_114 : jlk 99 114 = none := by decide +kernel
theorem jn99_115 : jlk 99 115 = none := by decide +kernel
theorem jn99_119 : jlk 99 119 = none := by decide +kernel
theorem jn99_120 : jlk 99 120 = none := by decide +kernel
theorem jn99_123 : jlk 99 123 = none := by decide +kernel
theorem jn99_124 : jlk 99 124 = none := by decide +kernel
theorem jn99_127 : jlk 99 127 = none := by decide +kernel
theorem jn99_128 : jlk 99 128 = none := by decide +kernel
theorem jn99_131 : jlk 99 131 = none := by decide +kernel
theorem jn99_132 : jlk 99 132 = none := by decide +kernel
theorem jn99_135 : jlk 99 135 = none := by decide +kernel
theorem jn99_136 : jlk 99 136 = none := by decide +kernel
theorem jn99_140 : jlk 99 140 = none := by decide +kernel
theorem jn99_141 : jlk 99 141 = none := by decide +kernel
theorem jn99_144 : jlk 99 144 = none := by decide +kernel
theorem jn99_145 : jlk 99 145 = none := by decide +kernel
theorem jn99_148 : jlk 99 148 = none := by decide +kernel
theorem jw_max_s : Cond.static Lib.Math.max.name ∈ gtbl := gat_mem (i := 797) (by decide +kernel)
theorem jw_max_c : Cond.code Lib.Math.max.name Lib.Math.max.code 2 (some .int) ∈ gtbl := gat_mem (i := 798) (by decide +kernel)
theorem jw_min_s : Cond.static Lib.Math.min.name ∈ gtbl := gat_mem (i := 813) (by decide +kernel)
theorem jw_min_c : Cond.code Lib.Math.min.name Lib.Math.min.code 2 (some .int) ∈ gtbl := gat_mem (i := 814) (by decide +kernel)
theorem jw_abs_s : Cond.static Lib.Math.abs.name ∈ gtbl := gat_mem (i := 954) (by decide +kernel)
theorem jw_abs_c : Cond.code Lib.Math.abs.name Lib.Math.abs.code 1 (some .int) ∈ gtbl := gat_mem (i := 955) (by decide +kernel)
theorem jw_math_i : Cond.initialized "java/lang/Math" ∈ gtbl := gat_mem (i := 118) (by decide +kernel)
theorem jw_sys_i : Cond.initialized "java/lang/System" ∈ gtbl := gat_mem (i := 117) (by decide +kernel)
theorem jw_ac_s : Cond.static arraycopyName ∈ gtbl := gat_mem (i := 763) (by decide +kernel)
theorem jw_ac_n : Cond.native arraycopyName ∈ gtbl := gat_mem (i := 764) (by decide +kernel)
theorem jw_oi_i : Cond.instanceMethod objectInit ∈ gtbl := gat_mem (i := 126) (by decide +kernel)
theorem jw_oi_c : Cond.code objectInit ⟨#[0xb1]⟩ 1 none ∈ gtbl := gat_mem (i := 127) (by decide +kernel)
def cTab : List (Nat × Nat × Int32 × Nat) := [(10, 168, -1000000000, 769), (4, 112, 2147483647, 940), (9, 117, 2147483647, 1033), (0, 39, 268435455, 1110), (50, 265, 1431655765, 1176), (50, 266, 858993459, 1177), (50, 267, 252645135, 1178), (10, 338, 65535, 1212), (11, 386, -1000000000, 1670), (11, 422, 1000000000, 1758), (11, 515, 65536, 1898)]
def c2Tab : List (Nat × Nat × Int64 × Nat) := [(10, 268, -1, 1008), (10, 274, -2, 1013), (7, 90, 19, 1047), (7, 92, 9, 1048), (11, 207, -9, 1527), (11, 209, 9, 1528), (11, 223, 999, 1533), (11, 225, 99, 1550), (11, 211, 7, 1554), (11, 346, 200, 1575), (11, 277, 48, 1612), (11, 279, 57, 1613), (11, 398, 98, 1726), (11, 400, -1, 1727), (11, 402, 2, 1728), (11, 417, 6, 1749), (11, 384, 19, 1786), (11, 451, -2, 1803), (11, 494, 8, 1864), (11, 502, 255, 1880), (11, 511, 65535, 1892), (11, 513, 60, 1897)]
def clk (o idx : Nat) : Option Int32 := (cTab.find? (fun q => q.1 == o && q.2.1 == idx)).map (fun q => q.2.2.1)
def c2lk (o idx : Nat) : Option Int64 := (c2Tab.find? (fun q => q.1 == o && q.2.1 == idx)).map (fun q => q.2.2.1)
theorem cTab_ok : cTab.all (fun q => gat q.2.2.2 (.constant (cn q.1) q.2.1 q.2.2.1)) = true := by decide +kernel
theorem c2Tab_ok : c2Tab.all (fun q => gat q.2.2.2 (.constantLong (cn q.1) q.2.1 q.2.2.1)) = true := by decide +kernel
theorem c10_168 : clk 10 168 = some (-1000000000) := by decide +kernel
theorem c4_112 : clk 4 112 = some (2147483647) := by decide +kernel
theorem c9_117 : clk 9 117 = some (2147483647) := by decide +kernel
theorem c0_39 : clk 0 39 = some (268435455) := by decide +kernel
theorem c50_265 : clk 50 265 = some (1431655765) := by decide +kernel
theorem c50_266 : clk 50 266 = some (858993459) := by decide +kernel
theorem c50_267 : clk 50 267 = some (252645135) := by decide +kernel
theorem c10_338 : clk 10 338 = some (65535) := by decide +kernel
theorem c11_386 : clk 11 386 = some (-1000000000) := by decide +kernel
theorem c11_422 : clk 11 422 = some (1000000000) := by decide +kernel
theorem c11_515 : clk 11 515 = some (65536) := by decide +kernel
theorem q10_268 : c2lk 10 268 = some (-1) := by decide +kernel
theorem q10_274 : c2lk 10 274 = some (-2) := by decide +kernel
theorem q7_90 : c2lk 7 90 = some (19) := by decide +kernel
theorem q7_92 : c2lk 7 92 = some (9) := by decide +kernel
theorem q11_207 : c2lk 11 207 = some (-9) := by decide +kernel
theorem q11_209 : c2lk 11 209 = some (9) := by decide +kernel
theorem q11_223 : c2lk 11 223 = some (999) := by decide +kernel
theorem q11_225 : c2lk 11 225 = some (99) := by decide +kernel
theorem q11_211 : c2lk 11 211 = some (7) := by decide +kernel
theorem q11_346 : c2lk 11 346 = some (200) := by decide +kernel
theorem q11_277 : c2lk 11 277 = some (48) := by decide +kernel
theorem q11_279 : c2lk 11 279 = some (57) := by decide +kernel
theorem q11_398 : c2lk 11 398 = some (98) := by decide +kernel
theorem q11_400 : c2lk 11 400 = some (-1) := by decide +kernel
theorem q11_402 : c2lk 11 402 = some (2) := by decide +kernel
theorem q11_417 : c2lk 11 417 = some (6) := by decide +kernel
theorem q11_384 : c2lk 11 384 = some (19) := by decide +kernel
theorem q11_451 : c2lk 11 451 = some (-2) := by decide +kernel
theorem q11_494 : c2lk 11 494 = some (8) := by decide +kernel
theorem q11_502 : c2lk 11 502 = some (255) := by decide +kernel
theorem q11_511 : c2lk 11 511 = some (65535) := by decide +kernel
theorem q11_513 : c2lk 11 513 = some (60) := by decide +kernel
def nTab : List (Nat × Nat × Nat × Nat × Nat × Nat) := [(99, 7, 10, 120, 121, 105), (10, 7, 8, 128, 129, 106), (10, 16, 3, 143, 144, 107), (10, 26, 1, 256, 257, 108), (10, 33, 2, 301, 302, 109), (2, 9, 1, 307, 257, 108), (10, 42, 7, 326, 327, 110), (10, 51, 5, 360, 361, 111), (5, 9, 7, 366, 327, 110), (10, 58, 4, 411, 412, 112), (10, 67, 9, 457, 458, 113), (10, 74, 0, 496, 497, 114), (10, 83, 6, 525, 526, 115), (99, 10, 11, 1250, 1251, 116)]
def nlk (o idx : Nat) : Option Nat := (nTab.find? (fun q => q.1 == o && q.2.1 == idx)).map (fun q => q.2.2.1)
def nlkB (q : Nat × Nat × Nat × Nat × Nat × Nat) : Bool := match q with
  | (o, idx, ci, p1, p2, p3) => gat p1 (.classLink (cn o) idx (cn ci)) && gat p2 (.instantiable (cn ci) (NF ci)) && gat p3 (.initialized (cn ci)) && decide (ci < 12)
theorem nTab_ok : nTab.all nlkB = true := by decide +kernel
theorem n99_7 : nlk 99 7 = some 10 := by decide +kernel
theorem n10_7 : nlk 10 7 = some 8 := by decide +kernel
theorem n10_16 : nlk 10 16 = some 3 := by decide +kernel
theorem n10_26 : nlk 10 26 = some 1 := by decide +kernel
theorem n10_33 : nlk 10 33 = some 2 := by decide +kernel
theorem n2_9 : nlk 2 9 = some 1 := by decide +kernel
theorem n10_42 : nlk 10 42 = some 7 := by decide +kernel
theorem n10_51 : nlk 10 51 = some 5 := by decide +kernel
theorem n5_9 : nlk 5 9 = some 7 := by decide +kernel
theorem n10_58 : nlk 10 58 = some 4 := by decide +kernel
theorem n10_67 : nlk 10 67 = some 9 := by decide +kernel
theorem n10_74 : nlk 10 74 = some 0 := by decide +kernel
theorem n10_83 : nlk 10 83 = some 6 := by decide +kernel
theorem n99_10 : nlk 99 10 = some 11 := by decide +kernel
-- other class links: classLink "BellRibbons$Payments" 21 "[[I" ; classLink "BellRibbons$Leveller" 21 "[[I" ; classLink "BellRibbons$Debts" 9 "[[I"
theorem jw_arr_int : Cond.arrayClass .int ∈ gtbl := gat_mem (i := 142) (by decide +kernel)
theorem jw_arr_boolean : Cond.arrayClass .boolean ∈ gtbl := gat_mem (i := 255) (by decide +kernel)
theorem jw_arr_byte : Cond.arrayClass .byte ∈ gtbl := gat_mem (i := 1512) (by decide +kernel)
theorem jw_arr_long : Cond.arrayClass .long ∈ gtbl := gat_mem (i := 1057) (by decide +kernel)
theorem vwCl_at : ∀ ci, ci < 12 → vwCl[ci]? = some (cn ci, TT ci, NF ci) := fun ci h => by
  match ci, h with
  | 0, _ => rfl
  | 1, _ => rfl
  | 2, _ => rfl
  | 3, _ => rfl
  | 4, _ => rfl
  | 5, _ => rfl
  | 6, _ => rfl
  | 7, _ => rfl
  | 8, _ => rfl
  | 9, _ => rfl
  | 10, _ => rfl
  | 11, _ => rfl
  | k + 12, h => exact absurd h (by omega)
theorem inX0 : ∀ w ∈ u_ws RX0 TX0 6, w ∈ gtbl := by
  have h : (List.range 6).all (fun j => gat (([512, 514, 516, 518, 520, 522] : List Nat).getD j 0) (u_lay RX0 TX0 j)) = true := by decide +kernel
  intro w hw
  obtain ⟨j, hj, rfl⟩ := List.mem_map.mp hw
  exact gat_mem (List.all_eq_true.mp h j hj)
theorem inX1 : ∀ w ∈ u_ws RX1 TX1 12, w ∈ gtbl := by
  have h : (List.range 12).all (fun j => gat (([276, 278, 280, 282, 284, 286, 288, 290, 292, 294, 296, 298] : List Nat).getD j 0) (u_lay RX1 TX1 j)) = true := by decide +kernel
  intro w hw
  obtain ⟨j, hj, rfl⟩ := List.mem_map.mp hw
  exact gat_mem (List.all_eq_true.mp h j hj)
theorem inX2 : ∀ w ∈ u_ws RX2 TX2 5, w ∈ gtbl := by
  have h : (List.range 5).all (fun j => gat (([315, 317, 319, 321, 323] : List Nat).getD j 0) (u_lay RX2 TX2 j)) = true := by decide +kernel
  intro w hw
  obtain ⟨j, hj, rfl⟩ := List.mem_map.mp hw
  exact gat_mem (List.all_eq_true.mp h j hj)
theorem inX3 : ∀ w ∈ u_ws RX3 TX3 16, w ∈ gtbl := by
  have h : (List.range 16).all (fun j => gat (([222, 224, 226, 228, 230, 232, 234, 236, 238, 240, 242, 244, 246, 248, 250, 252] : List Nat).getD j 0) (u_lay RX3 TX3 j)) = true := by decide +kernel
  intro w hw
  obtain ⟨j, hj, rfl⟩ := List.mem_map.mp hw
  exact gat_mem (List.all_eq_true.mp h j hj)
theorem inX4 : ∀ w ∈ u_ws RX4 TX4 12, w ∈ gtbl := by
  have h : (List.range 12).all (fun j => gat (([432, 434, 436, 438, 440, 442, 444, 446, 448, 450, 452, 454] : List Nat).getD j 0) (u_lay RX4 TX4 j)) = true := by decide +kernel
  intro w hw
  obtain ⟨j, hj, rfl⟩ := List.mem_map.mp hw
  exact gat_mem (List.all_eq_true.mp h j hj)
theorem inX5 : ∀ w ∈ u_ws RX5 TX5 12, w ∈ gtbl := by
  have h : (List.range 12).all (fun j => gat (([386, 388, 390, 392, 394, 396, 398, 400, 402, 404, 406, 408] : List Nat).getD j 0) (u_lay RX5 TX5 j)) = true := by decide +kernel
  intro w hw
  obtain ⟨j, hj, rfl⟩ := List.mem_map.mp hw
  exact gat_mem (List.all_eq_true.mp h j hj)
theorem inX6 : ∀ w ∈ u_ws RX6 TX6 8, w ∈ gtbl := by
  have h : (List.range 8).all (fun j => gat (([541, 543, 545, 547, 549, 551, 553, 555] : List Nat).getD j 0) (u_lay RX6 TX6 j)) = true := by decide +kernel
  intro w hw
  obtain ⟨j, hj, rfl⟩ := List.mem_map.mp hw
  exact gat_mem (List.all_eq_true.mp h j hj)
theorem inX7 : ∀ w ∈ u_ws RX7 TX7 6, w ∈ gtbl := by
  have h : (List.range 6).all (fun j => gat (([347, 349, 351, 353, 355, 357] : List Nat).getD j 0) (u_lay RX7 TX7 j)) = true := by decide +kernel
  intro w hw
  obtain ⟨j, hj, rfl⟩ := List.mem_map.mp hw
  exact gat_mem (List.all_eq_true.mp h j hj)
theorem inX8 : ∀ w ∈ u_ws RX8 TX8 2, w ∈ gtbl := by
  have h : (List.range 2).all (fun j => gat (([137, 139] : List Nat).getD j 0) (u_lay RX8 TX8 j)) = true := by decide +kernel
  intro w hw
  obtain ⟨j, hj, rfl⟩ := List.mem_map.mp hw
  exact gat_mem (List.all_eq_true.mp h j hj)
theorem inX9 : ∀ w ∈ u_ws RX9 TX9 10, w ∈ gtbl := by
  have h : (List.range 10).all (fun j => gat (([475, 477, 479, 481, 483, 485, 487, 489, 491, 493] : List Nat).getD j 0) (u_lay RX9 TX9 j)) = true := by decide +kernel
  intro w hw
  obtain ⟨j, hj, rfl⟩ := List.mem_map.mp hw
  exact gat_mem (List.all_eq_true.mp h j hj)
theorem inX10 : ∀ w ∈ u_ws RX10 TX10 12, w ∈ gtbl := by
  have h : (List.range 12).all (fun j => gat (([574, 576, 578, 580, 582, 584, 586, 588, 590, 592, 594, 596] : List Nat).getD j 0) (u_lay RX10 TX10 j)) = true := by decide +kernel
  intro w hw
  obtain ⟨j, hj, rfl⟩ := List.mem_map.mp hw
  exact gat_mem (List.all_eq_true.mp h j hj)
theorem inX11 : ∀ w ∈ u_ws RX11 TX11 85, w ∈ gtbl := by
  have h : (List.range 85).all (fun j => gat (([1341, 1343, 1345, 1347, 1349, 1351, 1353, 1355, 1357, 1359, 1361, 1363, 1365, 1367, 1369, 1371, 1373, 1375, 1377, 1379, 1381, 1383, 1385, 1387, 1389, 1391, 1393, 1395, 1397, 1399, 1401, 1403, 1405, 1407, 1409, 1411, 1413, 1415, 1417, 1419, 1421, 1423, 1425, 1427, 1429, 1431, 1433, 1435, 1437, 1439, 1441, 1443, 1445, 1447, 1449, 1451, 1453, 1455, 1457, 1459, 1461, 1463, 1465, 1467, 1469, 1471, 1473, 1475, 1477, 1479, 1481, 1483, 1485, 1487, 1489, 1491, 1493, 1495, 1497, 1499, 1501, 1503, 1505, 1507, 1509] : List Nat).getD j 0) (u_lay RX11 TX11 j)) = true := by decide +kernel
  intro w hw
  obtain ⟨j, hj, rfl⟩ := List.mem_map.mp hw
  exact gat_mem (List.all_eq_true.mp h j hj)
theorem inTT : ∀ ci, ci < 12 → ∀ w ∈ u_ws (cn ci) (TT ci) (NF ci), w ∈ gtbl := fun ci h => by
  match ci, h with
  | 0, _ => exact inX0
  | 1, _ => exact inX1
  | 2, _ => exact inX2
  | 3, _ => exact inX3
  | 4, _ => exact inX4
  | 5, _ => exact inX5
  | 6, _ => exact inX6
  | 7, _ => exact inX7
  | 8, _ => exact inX8
  | 9, _ => exact inX9
  | 10, _ => exact inX10
  | 11, _ => exact inX11
  | k + 12, h => exact absurd h (by omega)
theorem nmTT : ∀ ci, ci < 12 → ∀ a, a < NF ci → ∀ b, b < NF ci → a ≠ b → (TT ci a).2.1 ≠ (TT ci b).2.1 := fun ci h => by
  match ci, h with
  | 0, _ => exact nmX0
  | 1, _ => exact nmX1
  | 2, _ => exact nmX2
  | 3, _ => exact nmX3
  | 4, _ => exact nmX4
  | 5, _ => exact nmX5
  | 6, _ => exact nmX6
  | 7, _ => exact nmX7
  | 8, _ => exact nmX8
  | 9, _ => exact nmX9
  | 10, _ => exact nmX10
  | 11, _ => exact nmX11
  | k + 12, h => exact absurd h (by omega)
theorem tyTT : ∀ ci, ci < 12 → ∀ k, k < NF ci → parseFieldDescriptor (TT ci k).2.2.1 = some (tyT ci k) := fun ci h => by
  match ci, h with
  | 0, _ => exact tyX0_ok
  | 1, _ => exact tyX1_ok
  | 2, _ => exact tyX2_ok
  | 3, _ => exact tyX3_ok
  | 4, _ => exact tyX4_ok
  | 5, _ => exact tyX5_ok
  | 6, _ => exact tyX6_ok
  | 7, _ => exact tyX7_ok
  | 8, _ => exact tyX8_ok
  | 9, _ => exact tyX9_ok
  | 10, _ => exact tyX10_ok
  | 11, _ => exact tyX11_ok
  | k + 12, h => exact absurd h (by omega)
end
section
/-! THE ABSTRACT MACHINE: heap as a list of shapes and two maps of numbers; what an instruction asks; that it's sound -/
abbrev XV : Type := List (Option Value)
abbrev Sh : Type := Nat × Nat × List (Option Nat)
abbrev Mem : Type := (Nat → Nat → Int32) × (Nat → Nat → Int64)
/-- launch, tables, kinds of arrays, base, script: its cell, length, ints -/
abbrev Gx : Type := Launch × va_G × (Nat → ClassId) × Nat × Nat × Nat × (Nat → Int32)
def Gx.D (G : Gx) : va_G := G.2.1
def Gx.T (G : Gx) : Nat → ClassId := G.2.2.1
def Gx.z (G : Gx) : Nat := G.2.2.2.1
def Gx.sb (G : Gx) : Nat := G.2.2.2.2.1
def Gx.sL (G : Gx) : Nat := G.2.2.2.2.2.1
def Gx.xs (G : Gx) : Nat → Int32 := G.2.2.2.2.2.2
def cv (G : Gx) (v : Value) : Value := match v with
  | .ref a => .ref (G.z + a)
  | .float _ => .ref G.sb
  | v => v
theorem cv_cat (G : Gx) (v : Value) : (cv G v).category = v.category := by cases v <;> rfl
def gi (μ : Mem) (a k : Nat) : Int32 := μ.1 a k
def gl (μ : Mem) (a k : Nat) : Int64 := μ.2 a k
def si (μ : Mem) (a k : Nat) (x : Int32) : Mem := (fun b => if b = a then upd (μ.1 b) k x else μ.1 b, μ.2)
def sl (μ : Mem) (a k : Nat) (x : Int64) : Mem := (μ.1, fun b => if b = a then vp_updL (μ.2 b) k x else μ.2 b)
/-- the cell a is new: zeros -/
def clr (μ : Mem) (a : Nat) : Mem := (fun b => if b = a then fun _ => 0 else μ.1 b, fun b => if b = a then fun _ => 0 else μ.2 b)
/-- the cells from a on, n of them, are new -/
def clrN (μ : Mem) (a n : Nat) : Mem := (fun b => if a ≤ b ∧ b < a + n then fun _ => 0 else μ.1 b, fun b => if a ≤ b ∧ b < a + n then fun _ => 0 else μ.2 b)
/-- the content of the array a is f -/
def sar (μ : Mem) (a : Nat) (f : Nat → Int32) : Mem := (fun b => if b = a then f else μ.1 b, μ.2)
def fv (G : Gx) (rs : List (Option Nat)) (a : Nat) (μ : Mem) (kd k : Nat) : Value := match kd with
  | 1 => .long (μ.2 a k)
  | 2 => va_rf ((rs.getD k none).map (fun b => G.z + b))
  | _ => .int (μ.1 a k)
def fvs (G : Gx) (ci : Nat) (rs : List (Option Nat)) (a : Nat) (μ : Mem) : List Value := (kdT ci).zipIdx.map (fun p => fv G rs a μ p.1 p.2)
def grd (G : Gx) (w : Nat) (rs : List (Option Nat)) : Nat → Option Nat := fun i => match rs with
  | some b :: some c :: _ => if i < c then some (G.z + (b + w * i)) else none
  | _ => none
def ent (G : Gx) (sh : Sh) (a : Nat) (μ : Mem) : va_E := match sh.1 with
  | 0 => .inl (G.T 0, sh.2.1, .inl (μ.1 a))
  | 1 => .inl (G.T 1, sh.2.1, .inl (μ.1 a))
  | 2 => .inl (G.T 2, sh.2.1, .inl (μ.1 a))
  | 3 => .inl (G.T 3, sh.2.1, .inr (.inl (μ.2 a)))
  | 4 => .inl (G.T 4, sh.2.1, .inr (.inr (.inr (.inr (grd G 1 sh.2.2)))))
  | 5 => .inl (G.T 5, sh.2.1, .inr (.inr (.inr (.inr (grd G 5 sh.2.2)))))
  | c + 6 => .inr (c, fvs G c sh.2.2 a μ)
def wl (G : Gx) (lay : List Sh) (μ : Mem) : va_W := lay.zipIdx.map (fun p => (G.z + p.2, ent G p.1 p.2 μ))
def tys (G : Gx) : List (ClassId × FieldType) := [(G.T 0, .int), (G.T 1, .boolean), (G.T 2, .byte), (G.T 3, .long), (G.T 4, .array .int), (G.T 5, .object "BellRibbons$Scale")]
theorem wl_get {G : Gx} {lay : List Sh} {μ : Mem} {a : Nat} {sh : Sh} (h : lay[a]? = some sh) : (wl G lay μ)[a]? = some (G.z + a, ent G sh a μ) := by
  unfold wl
  rw [List.getElem?_map, List.getElem?_zipIdx, h]
  simp
theorem wl_inv {G : Gx} {lay : List Sh} {μ : Mem} {a : Nat} {q : Nat × va_E} (h : (wl G lay μ)[a]? = some q) : ∃ sh, lay[a]? = some sh ∧ q = (G.z + a, ent G sh a μ) := by
  unfold wl at h
  rw [List.getElem?_map, List.getElem?_zipIdx] at h
  cases e : lay[a]? with
  | none => rw [e] at h; simp at h
  | some sh => rw [e] at h; simp at h; exact ⟨sh, rfl, h.symm⟩
theorem wl_len {G : Gx} {lay : List Sh} {μ : Mem} : (wl G lay μ).length = lay.length := by simp [wl]
theorem wl_set {G : Gx} {lay : List Sh} {μ μ' : Mem} {a : Nat} {sh sh' : Sh} (h : lay[a]? = some sh) (hk : ∀ b s, b ≠ a → lay[b]? = some s → ent G s b μ' = ent G s b μ) : (wl G lay μ).set a (G.z + a, ent G sh' a μ') = wl G (lay.set a sh') μ' := by
  have hl : a < lay.length := (List.getElem?_eq_some_iff.mp h).1
  apply List.ext_getElem?
  intro i
  by_cases e : i = a
  · subst e
    rw [List.getElem?_set_self (by rw [wl_len]; exact hl), wl_get (sh := sh') (by rw [List.getElem?_set_self hl])]
  · rw [List.getElem?_set_ne (Ne.symm e)]
    cases e2 : lay[i]? with
    | none =>
      have h1 : lay.length ≤ i := List.getElem?_eq_none_iff.mp e2
      rw [List.getElem?_eq_none (by rw [wl_len]; exact h1), List.getElem?_eq_none (by rw [wl_len, List.length_set]; exact h1)]
    | some s => rw [wl_get e2, wl_get (sh := s) (by rw [List.getElem?_set_ne (Ne.symm e)]; exact e2), hk i s e e2]
theorem wl_D (G : Gx) (lay : List Sh) (μ : Mem) : va_D (fun q => G.z ≤ q) (wl G lay μ) := by
  refine ⟨fun i j p q hi hj e => ?_, fun k q hk => ?_⟩
  · obtain ⟨s1, -, rfl⟩ := wl_inv hi
    obtain ⟨s2, -, rfl⟩ := wl_inv hj
    dsimp only at e
    omega
  · obtain ⟨s1, -, rfl⟩ := wl_inv hk
    dsimp only
    omega
theorem wl_app {G : Gx} {lay : List Sh} {μ μ' : Mem} {sh : Sh} (hk : ∀ b s, lay[b]? = some s → ent G s b μ' = ent G s b μ) : wl G (lay ++ [sh]) μ' = wl G lay μ ++ [(G.z + lay.length, ent G sh lay.length μ')] := by
  apply List.ext_getElem?
  intro i
  by_cases e : i < lay.length
  · rw [List.getElem?_append_left (by rw [wl_len]; exact e)]
    obtain ⟨s, hs⟩ : ∃ s, lay[i]? = some s := ⟨_, List.getElem?_eq_getElem e⟩
    rw [wl_get hs, wl_get (sh := s) (by rw [List.getElem?_append_left e]; exact hs), hk i s hs]
  · rw [List.getElem?_append_right (by rw [wl_len]; omega), wl_len]
    by_cases e2 : i = lay.length
    · subst e2
      rw [wl_get (sh := sh) (by simp)]
      simp
    · rw [List.getElem?_eq_none (by rw [wl_len, List.length_append, List.length_singleton]; omega), List.getElem?_eq_none (by simp; omega)]
/-- words of nest mates, of arrays of references: told beside the tables, for they're moved otherwise -/
def XW (U : State) : Prop := (∀ w ∈ nestW, va_Nw w U) ∧ va_AO "BellRibbons$Scale" U ∧ (Cond.arrayOver (.array .int)).before #[] U = true
def Rep (G : Gx) (lay : List Sh) (μ : Mem) (U : State) : Prop := va_P G.D vwCl (wl G lay μ) U.heap ∧ U.heap.size = G.z + lay.length ∧ va_K G.D vwCl (tys G) U ∧ XW U
def KQ (G : Gx) (rk : Nat) (Q : Option Value → List Sh → Mem → Prop) : Array Value → State → Outcome → State → Prop := match rk with
  | 0 => va_Qv (fun u : List Sh × Mem => Q none u.1 u.2) (fun u t => Rep G u.1 u.2 t) (fun q => G.z ≤ q)
  | 2 => va_Ql (fun r (u : List Sh × Mem) => Q (some (.long r)) u.1 u.2) (fun u t => Rep G u.1 u.2 t) (fun q => G.z ≤ q)
  | _ => va_Qi (fun r (u : List Sh × Mem) => Q (some (.int r)) u.1 u.2) (fun u t => Rep G u.1 u.2 t) (fun q => G.z ≤ q)
def Kx (G : Gx) (d : Nat) (N : MI) (av : List Value) (lay : List Sh) (μ : Mem) (c s : Nat) (Q : Option Value → List Sh → Mem → Prop) : Prop :=
  Met G.1 N.yn (.code N.yn N.cd N.ml N.rt :: gtbl) { frames := d, cells := c, slots := s, locals := 64 * d } (va_Pc (av.map (cv G)) (Rep G lay μ)) (KQ G (inf N).2.1 Q) c s (fun q => G.z ≤ q)
/-- the call's contract, with what it may make out of the caller's budget -/
def KC (G : Gx) (d : Nat) (N : MI) (av : List Value) (lay : List Sh) (μ : Mem) (bc bs : Nat) (Q : Option Value → List Sh → Mem → Nat → Nat → Prop) : Prop :=
  ∃ c s, c ≤ bc ∧ s ≤ bs ∧ Kx G d N av lay μ c s (fun r lay' μ' => Q r lay' μ' (bc - c) (bs - s))
-- locals
def isL : Option Value → Bool
  | some v => v.category == 2
  | none => false
def lget : XV → Nat → Option Value
  | [], _ => none
  | a :: _, 0 => a
  | _ :: r, i + 1 => lget r i
def lset : XV → Nat → Value → Option XV
  | [], _, _ => none
  | _ :: r, 0, v => some (some v :: r)
  | a :: r, i + 1, v => (lset r i v).map (fun q => (bif (i == 0) && isL a then none else a) :: q)
def lset2 : XV → Nat → Value → Option XV
  | [], _, _ => none
  | _ :: [], 0, _ => none
  | _ :: _ :: r, 0, v => some (some v :: none :: r)
  | a :: r, i + 1, v => (lset2 r i v).map (fun q => (bif (i == 0) && isL a then none else a) :: q)
theorem lget_at : ∀ (loc : XV) (i : Nat) (v : Value), lget loc i = some v → loc[i]? = some (some v)
  | [], _, _, h => by simp [lget] at h
  | a :: r, 0, v, h => by simp [lget] at h; simp [h]
  | a :: r, i + 1, v, h => by simpa using lget_at r i v h
theorem lset_spec : ∀ (loc : XV) (i : Nat) (v : Value) (loc' : XV), lset loc i v = some loc' → loc'.length = loc.length ∧ i < loc.length ∧ ∀ j w, loc'[j]? = some (some w) → (j = i ∧ w = v) ∨ (j ≠ i ∧ loc[j]? = some (some w) ∧ ¬ (j + 1 = i ∧ w.category = 2))
  | [], _, _, _, h => by simp [lset] at h
  | a :: r, 0, v, loc', h => by
    simp only [lset, Option.some.injEq] at h
    subst h
    refine ⟨rfl, by simp, fun j w hj => ?_⟩
    cases j with
    | zero => simp at hj; exact Or.inl ⟨rfl, hj.symm⟩
    | succ j => exact Or.inr ⟨by omega, by simpa using hj, by omega⟩
  | a :: r, i + 1, v, loc', h => by
    simp only [lset, Option.map_eq_some_iff] at h
    obtain ⟨q, hq, rfl⟩ := h
    obtain ⟨h1, h2, h3⟩ := lset_spec r i v q hq
    refine ⟨by simp [h1], by simp [h2], fun j w hj => ?_⟩
    cases j with
    | zero =>
      right
      by_cases hc : ((i == 0) && isL a) = true
      · rw [hc] at hj; simp at hj
      · rw [Bool.not_eq_true] at hc
        rw [hc] at hj
        simp only [cond_false, List.getElem?_cons_zero, Option.some.injEq] at hj
        subst hj
        refine ⟨by omega, rfl, fun hh => ?_⟩
        have h0 : i = 0 := by omega
        subst h0
        simp [isL, hh.2] at hc
    | succ j =>
      rcases h3 j w (by simpa using hj) with ⟨e, f⟩ | ⟨e, f, g⟩
      · exact Or.inl ⟨by omega, f⟩
      · exact Or.inr ⟨by omega, by simpa using f, fun hh => g ⟨by omega, hh.2⟩⟩
theorem lset2_spec : ∀ (loc : XV) (i : Nat) (v : Value) (loc' : XV), lset2 loc i v = some loc' → loc'.length = loc.length ∧ i + 1 < loc.length ∧ ∀ j w, loc'[j]? = some (some w) → (j = i ∧ w = v) ∨ (j ≠ i ∧ j ≠ i + 1 ∧ loc[j]? = some (some w) ∧ ¬ (j + 1 = i ∧ w.category = 2))
  | [], _, _, _, h => by simp [lset2] at h
  | [a], 0, _, _, h => by simp [lset2] at h
  | a :: b :: r, 0, v, loc', h => by
    simp only [lset2, Option.some.injEq] at h
    subst h
    refine ⟨rfl, by simp, fun j w hj => ?_⟩
    match j with
    | 0 => simp at hj; exact Or.inl ⟨rfl, hj.symm⟩
    | 1 => simp at hj
    | j + 2 => exact Or.inr ⟨by omega, by omega, by simpa using hj, by omega⟩
  | a :: r, i + 1, v, loc', h => by
    simp only [lset2, Option.map_eq_some_iff] at h
    obtain ⟨q, hq, rfl⟩ := h
    obtain ⟨h1, h2, h3⟩ := lset2_spec r i v q hq
    refine ⟨by simp [h1], by simp; omega, fun j w hj => ?_⟩
    cases j with
    | zero =>
      right
      by_cases hc : ((i == 0) && isL a) = true
      · rw [hc] at hj; simp at hj
      · rw [Bool.not_eq_true] at hc
        rw [hc] at hj
        simp only [cond_false, List.getElem?_cons_zero, Option.some.injEq] at hj
        subst hj
        refine ⟨by omega, by omega, rfl, fun hh => ?_⟩
        have h0 : i = 0 := by omega
        subst h0
        simp [isL, hh.2] at hc
    | succ j =>
      rcases h3 j w (by simpa using hj) with ⟨e, f⟩ | ⟨e, f, g, g2⟩
      · exact Or.inl ⟨by omega, f⟩
      · exact Or.inr ⟨by omega, by omega, by simpa using g, fun hh => g2 ⟨by omega, hh.2⟩⟩
def lvl (G : Gx) (loc : XV) : List (Nat × Value) := loc.zipIdx.filterMap (fun p => p.1.map (fun v => (p.2, cv G v)))
theorem lvl_mem {G : Gx} {loc : XV} {q : Nat × Value} : q ∈ lvl G loc ↔ ∃ v, loc[q.1]? = some (some v) ∧ q.2 = cv G v := by
  unfold lvl
  rw [List.mem_filterMap]
  constructor
  · rintro ⟨⟨o, j⟩, hm, hq⟩
    rw [List.mem_zipIdx_iff_getElem?] at hm
    cases o with
    | none => simp at hq
    | some v =>
      simp only [Option.map_some, Option.some.injEq] at hq
      subst hq
      exact ⟨v, hm, rfl⟩
  · rintro ⟨v, h1, h2⟩
    refine ⟨(some v, q.1), by rw [List.mem_zipIdx_iff_getElem?]; exact h1, ?_⟩
    simp [← h2]
def Lok (G : Gx) (ls : Array Slot) (n : Nat) (loc : XV) : Prop := lv_has ls n (lvl G loc) ∧ loc.length = n
theorem Lok.get {G : Gx} {ls : Array Slot} {n : Nat} {loc : XV} (h : Lok G ls n loc) {i : Nat} {v : Value} (hg : lget loc i = some v) : ls[i]? = some (.val (cv G v)) := h.1.2.2 (i, cv G v) (lvl_mem.mpr ⟨v, lget_at loc i v hg, rfl⟩)
theorem Lok.set {G : Gx} {ls : Array Slot} {n : Nat} {loc loc' : XV} {i : Nat} {v : Value} (h : Lok G ls n loc) (hs : lset loc i v = some loc') : i < n ∧ ∀ ls', lv_has ls' n ((i, cv G v) :: (lvl G loc).filter (fun q => !(q.1 == i) && !(q.1 + 1 == i && q.2.category == 2))) → Lok G ls' n loc' := by
  obtain ⟨h1, h2, h3⟩ := lset_spec loc i v loc' hs
  refine ⟨by rw [← h.2]; exact h2, fun ls' hl => ⟨⟨hl.1, hl.2.1, fun q hq => hl.2.2 q ?_⟩, h1.trans h.2⟩⟩
  obtain ⟨w, hw1, hw2⟩ := lvl_mem.mp hq
  rcases h3 q.1 w hw1 with ⟨e, f⟩ | ⟨e, f, g⟩
  · subst f
    rw [List.mem_cons]
    left
    exact Prod.ext e hw2
  · rw [List.mem_cons]
    right
    rw [List.mem_filter]
    refine ⟨lvl_mem.mpr ⟨w, f, hw2⟩, ?_⟩
    rw [hw2, cv_cat]
    simp only [Bool.and_eq_true, Bool.not_eq_true', beq_eq_false_iff_ne, ne_eq, Bool.and_eq_false_imp, beq_iff_eq]
    exact ⟨e, fun hh hh2 => g ⟨hh, hh2⟩⟩
theorem Lok.set2 {G : Gx} {ls : Array Slot} {n : Nat} {loc loc' : XV} {i : Nat} {v : Value} (h : Lok G ls n loc) (hs : lset2 loc i v = some loc') : i + 1 < n ∧ ∀ ls', lv_has ls' n ((i, cv G v) :: (lvl G loc).filter (fun q => !(q.1 == i) && (!(q.1 == i + 1) && !(q.1 + 1 == i && q.2.category == 2)))) → Lok G ls' n loc' := by
  obtain ⟨h1, h2, h3⟩ := lset2_spec loc i v loc' hs
  refine ⟨by rw [← h.2]; exact h2, fun ls' hl => ⟨⟨hl.1, hl.2.1, fun q hq => hl.2.2 q ?_⟩, h1.trans h.2⟩⟩
  obtain ⟨w, hw1, hw2⟩ := lvl_mem.mp hq
  rcases h3 q.1 w hw1 with ⟨e, f⟩ | ⟨e, e2, f, g⟩
  · subst f
    rw [List.mem_cons]
    left
    exact Prod.ext e hw2
  · rw [List.mem_cons]
    right
    rw [List.mem_filter]
    refine ⟨lvl_mem.mpr ⟨w, f, hw2⟩, ?_⟩
    rw [hw2, cv_cat]
    simp only [Bool.and_eq_true, Bool.not_eq_true', beq_eq_false_iff_ne, ne_eq, Bool.and_eq_false_imp, beq_iff_eq]
    exact ⟨e, e2, fun hh hh2 => g ⟨hh, hh2⟩⟩
end
section
abbrev Kt : Type := Nat → XV → List Value → List Sh → Mem → Nat → Nat → Prop
def szs : List Value → Nat
  | [] => 0
  | v :: r => v.category + szs r
theorem szs_eq : ∀ st : List Value, (st.map fun v => v.category).sum = szs st
  | [] => rfl
  | v :: r => by simp [szs, szs_eq r]
theorem szs_cv (G : Gx) : ∀ st : List Value, ((st.map (cv G)).map fun v => v.category).sum = szs st
  | [] => rfl
  | v :: r => by simp only [List.map_cons, List.sum_cons, szs, cv_cat, szs_cv G r]
def p1 (st : List Value) (f : Int32 → List Value → Prop) : Prop := match st with
  | .int x :: r => f x r
  | _ => False
def p2 (st : List Value) (f : Int32 → Int32 → List Value → Prop) : Prop := match st with
  | .int y :: .int x :: r => f x y r
  | _ => False
def q1 (st : List Value) (f : Int64 → List Value → Prop) : Prop := match st with
  | .long x :: r => f x r
  | _ => False
def q2 (st : List Value) (f : Int64 → Int64 → List Value → Prop) : Prop := match st with
  | .long y :: .long x :: r => f x y r
  | _ => False
def qi (st : List Value) (f : Int64 → Int32 → List Value → Prop) : Prop := match st with
  | .int y :: .long x :: r => f x y r
  | _ => False
def pr (st : List Value) (f : Nat → List Value → Prop) : Prop := match st with
  | .ref a :: r => f a r
  | _ => False
def pa (st : List Value) (f : Int32 → Nat → List Value → Prop) (g : Int32 → List Value → Prop) : Prop := match st with
  | .int i :: .ref a :: r => f i a r
  | .int i :: .float _ :: r => g i r
  | _ => False
def pst (st : List Value) (f : Int32 → Int32 → Nat → List Value → Prop) : Prop := match st with
  | .int x :: .int i :: .ref a :: r => f x i a r
  | _ => False
def qst (st : List Value) (f : Int64 → Int32 → Nat → List Value → Prop) : Prop := match st with
  | .long x :: .int i :: .ref a :: r => f x i a r
  | _ => False
def rst (st : List Value) (f : Nat → Int32 → Nat → List Value → Prop) : Prop := match st with
  | .ref x :: .int i :: .ref a :: r => f x i a r
  | _ => False
def pac (st : List Value) (f : Int32 → Int32 → Nat → Int32 → Nat → List Value → Prop) : Prop := match st with
  | .int n :: .int dp :: .ref a :: .int sp :: .ref a0 :: r => f n dp a sp a0 r
  | _ => False
def brI (c : ClassFile.Cond) (x y : Int32) (kt kf : Prop) : Prop := match c with
  | .eq => (x = y → kt) ∧ (¬ x = y → kf)
  | .ne => (¬ x = y → kt) ∧ (x = y → kf)
  | .lt => (x < y → kt) ∧ (¬ x < y → kf)
  | .ge => (y ≤ x → kt) ∧ (¬ y ≤ x → kf)
  | .gt => (y < x → kt) ∧ (¬ y < x → kf)
  | .le => (x ≤ y → kt) ∧ (¬ x ≤ y → kf)
def swt (x : Int32) (pc : Nat) : Int → List Int → (Nat → Prop) → Prop
  | _, [], _ => True
  | lo, o :: r, f => (x.toInt = lo → f ((pc : Int) + o).toNat) ∧ swt x pc (lo + 1) r f
def swl (x : Int32) (pc : Nat) (dflt : Int) : List (Int × Int) → (Nat → Prop) → Prop
  | [], f => f ((pc : Int) + dflt).toNat
  | o :: r, f => (x.toInt = o.1 → f ((pc : Int) + o.2).toNat) ∧ (¬ x.toInt = o.1 → swl x pc dflt r f)
def gfld (kd : Nat) (sh : Sh) (a : Nat) (μ : Mem) (k : Nat) (f : Value → Prop) : Prop := match kd with
  | 1 => f (.long (gl μ a k))
  | 2 => f (match sh.2.2.getD k none with
    | some b => .ref b
    | none => .null)
  | _ => f (.int (gi μ a k))
def pfld (kd : Nat) (st : List Value) (f : Value → Nat → List Value → Prop) : Prop := match st with
  | .int x :: .ref a :: r => (kd = 0 ∨ kd = 3 ∧ (x = 0 ∨ x = 1)) ∧ f (.int x) a r
  | .long x :: .ref a :: r => kd = 1 ∧ f (.long x) a r
  | .ref x :: .ref a :: r => kd = 2 ∧ f (.ref x) a r
  | _ => False
def sfld (lay : List Sh) (μ : Mem) (sh : Sh) (a k : Nat) (v : Value) (f : List Sh → Mem → Prop) : Prop := match v with
  | .int x => f lay (si μ a k x)
  | .long x => f lay (sl μ a k x)
  | .ref b => k < sh.2.2.length ∧ f (lay.set a (sh.1, sh.2.1, sh.2.2.set k (some b))) μ
  | _ => False
def pargs : Nat → List Value → List Value → (List Value → List Value → Prop) → Prop
  | 0, acc, st, f => f acc st
  | n + 1, acc, v :: st, f => pargs n (v :: acc) st f
  | _ + 1, _, [], _ => False
def pushv : Option Value → List Value → List Value
  | none, r => r
  | some v, r => v :: r
def rcv (lay : List Sh) (o : Nat) (av : List Value) : Prop := match av with
  | .ref a :: _ => match lay[a]? with
    | some sh => sh.1 = o + 6
    | none => False
  | _ => False
def tgo (pc : Nat) (i : Instr) : Nat := match i with
  | .goto o => ((pc : Int) + o).toNat
  | .if_icmp _ o => ((pc : Int) + o).toNat
  | .ifCond _ o => ((pc : Int) + o).toNat
  | .ifnull o => ((pc : Int) + o).toNat
  | .ifnonnull o => ((pc : Int) + o).toNat
  | _ => 0
def tok (pc : Nat) (i : Instr) : Bool := match i with
  | .goto o => decide (0 ≤ (pc : Int) + o)
  | .if_icmp _ o => decide (0 ≤ (pc : Int) + o)
  | .ifCond _ o => decide (0 ≤ (pc : Int) + o)
  | .ifnull o => decide (0 ≤ (pc : Int) + o)
  | .ifnonnull o => decide (0 ≤ (pc : Int) + o)
  | .tableswitch df _ _ os => decide (0 ≤ (pc : Int) + df) && os.toList.all (fun o => decide (0 ≤ (pc : Int) + o))
  | .lookupswitch df os => decide (0 ≤ (pc : Int) + df) && os.toList.all (fun o => decide (0 ≤ (pc : Int) + o.2)) && (os.toList.zip (os.toList.drop 1)).all (fun (a, next) => a.1 < next.1)
  | _ => true
def cvl (i : Instr) : Int32 := match i with
  | .iconst n => Int32.ofInt n
  | .bipush n => (Int8.ofInt n).toInt32
  | .sipush n => (Int16.ofInt n).toInt32
  | .iinc _ n => Int32.ofInt n
  | _ => 0
def nrm (i : Instr) : Instr := match i with
  | .iload_n n => .iload n
  | .istore_n n => .istore n
  | .lload_n n => .lload n
  | .lstore_n n => .lstore n
  | .aload_n n => .aload n
  | .astore_n n => .astore n
  | .bipush _ => .iconst 0
  | .sipush _ => .iconst 0
  | .iconst _ => .iconst 0
  | .iinc i _ => .iinc i 0
  | .goto _ => .goto 0
  | .if_icmp c _ => .if_icmp c 0
  | .ifCond c _ => .ifCond c 0
  | .ifnull _ => .ifnull 0
  | .ifnonnull _ => .ifnonnull 0
  | .ldc_w n => .ldc n
  | i => i
def lenOf (i : Instr) : Nat := match i with
  | .iload _ | .lload _ | .aload _ | .istore _ | .lstore _ | .astore _ | .bipush _ | .ldc _ | .newarray _ => 2
  | .sipush _ | .ldc_w _ | .ldc2_w _ | .iinc _ _ | .goto _ | .if_icmp _ _ | .ifCond _ _ | .ifnull _ | .ifnonnull _ | .getfield _ | .putfield _ | .new _ | .anewarray _ | .invokestatic _ | .invokevirtual _ | .invokespecial _ => 3
  | .multianewarray _ _ => 4
  | .tableswitch _ _ _ _ | .lookupswitch _ _ => 0
  | _ => 1
/-- an instruction, its length, where it jumps, its number -/
def dcd (M : MI) (pc : Nat) : Option (Instr × Nat × Nat × Int32) := match decode M.cd pc with
  | .ok (i, len) => if tok pc i && (lenOf i == 0 || lenOf i == len) then some (nrm i, len, tgo pc i, cvl i) else none
  | _ => none
def atk (t : ArrayType) : Nat := match newarray.typeOf t with
  | .int => 0
  | .boolean => 1
  | .byte => 2
  | .long => 3
  | _ => 9
def rok (rk : Nat) (x : Int32) : Prop := rk = 1 ∨ rk = 3 ∧ (x = 0 ∨ x = 1)
def exec1 (G : Gx) (d : Nat) (M : MI) (Qa : Option Value → List Sh → Mem → Prop) (i : Instr) (len t : Nat) (v : Int32) (pc : Nat) (loc : XV) (st : List Value) (lay : List Sh) (μ : Mem) (bc bs : Nat) (k : Kt) : Prop :=
  match i with
  | .iload n => match lget loc n with
    | some (.int x) => k (pc + len) loc (.int x :: st) lay μ bc bs
    | _ => False
  | .lload n => match lget loc n with
    | some (.long x) => k (pc + len) loc (.long x :: st) lay μ bc bs
    | _ => False
  | .aload n => match lget loc n with
    | some (.ref x) => k (pc + len) loc (.ref x :: st) lay μ bc bs
    | some (.float x) => k (pc + len) loc (.float x :: st) lay μ bc bs
    | _ => False
  | .istore n => p1 st (fun x r => match lset loc n (.int x) with
    | some l => k (pc + len) l r lay μ bc bs
    | none => False)
  | .lstore n => q1 st (fun x r => match lset2 loc n (.long x) with
    | some l => k (pc + len) l r lay μ bc bs
    | none => False)
  | .astore n => pr st (fun x r => match lset loc n (.ref x) with
    | some l => k (pc + len) l r lay μ bc bs
    | none => False)
  | .iinc n _ => match lget loc n with
    | some (.int x) => match lset loc n (.int (x + v)) with
      | some l => k (pc + 3) l st lay μ bc bs
      | none => False
    | _ => False
  | .iconst _ => k (pc + len) loc (.int v :: st) lay μ bc bs
  | .lconst n => k (pc + 1) loc (.long (if n = 0 then 0 else 1) :: st) lay μ bc bs
  | .ldc n => match clk (inf M).1 n with
    | some x => k (pc + len) loc (.int x :: st) lay μ bc bs
    | none => False
  | .ldc2_w n => match c2lk (inf M).1 n with
    | some x => k (pc + 3) loc (.long x :: st) lay μ bc bs
    | none => False
  | .iadd => p2 st (fun x y r => k (pc + 1) loc (.int (x + y) :: r) lay μ bc bs)
  | .isub => p2 st (fun x y r => k (pc + 1) loc (.int (x - y) :: r) lay μ bc bs)
  | .imul => p2 st (fun x y r => k (pc + 1) loc (.int (x * y) :: r) lay μ bc bs)
  | .idiv => p2 st (fun x y r => ¬ y = 0 ∧ k (pc + 1) loc (.int (x / y) :: r) lay μ bc bs)
  | .irem => p2 st (fun x y r => ¬ y = 0 ∧ k (pc + 1) loc (.int (x - x / y * y) :: r) lay μ bc bs)
  | .ineg => p1 st (fun x r => k (pc + 1) loc (.int (-x) :: r) lay μ bc bs)
  | .ishl => p2 st (fun x y r => k (pc + 1) loc (.int (x <<< (y &&& 31)) :: r) lay μ bc bs)
  | .ishr => p2 st (fun x y r => k (pc + 1) loc (.int (x >>> (y &&& 31)) :: r) lay μ bc bs)
  | .iushr => p2 st (fun x y r => k (pc + 1) loc (.int (x.toUInt32 >>> (y.toUInt32 &&& Int32.toUInt32 31)).toInt32 :: r) lay μ bc bs)
  | .iand => p2 st (fun x y r => k (pc + 1) loc (.int (x &&& y) :: r) lay μ bc bs)
  | .ior => p2 st (fun x y r => k (pc + 1) loc (.int (x ||| y) :: r) lay μ bc bs)
  | .ixor => p2 st (fun x y r => k (pc + 1) loc (.int (x ^^^ y) :: r) lay μ bc bs)
  | .ladd => q2 st (fun x y r => k (pc + 1) loc (.long (x + y) :: r) lay μ bc bs)
  | .lmul => q2 st (fun x y r => k (pc + 1) loc (.long (x * y) :: r) lay μ bc bs)
  | .lor => q2 st (fun x y r => k (pc + 1) loc (.long (x ||| y) :: r) lay μ bc bs)
  | .land => q2 st (fun x y r => k (pc + 1) loc (.long (x &&& y) :: r) lay μ bc bs)
  | .lcmp => q2 st (fun x y r => k (pc + 1) loc (.int (lg_cmp x y) :: r) lay μ bc bs)
  | .lshl => qi st (fun x y r => k (pc + 1) loc (.long (x <<< (y.toInt64 &&& 63)) :: r) lay μ bc bs)
  | .lshr => qi st (fun x y r => k (pc + 1) loc (.long (x >>> (y.toInt64 &&& 63)) :: r) lay μ bc bs)
  | .i2l => p1 st (fun x r => k (pc + 1) loc (.long x.toInt64 :: r) lay μ bc bs)
  | .i2b => p1 st (fun x r => k (pc + 1) loc (.int x.toInt8.toInt32 :: r) lay μ bc bs)
  | .dup => match st with
    | v :: r => v.category = 1 ∧ k (pc + 1) loc (v :: v :: r) lay μ bc bs
    | _ => False
  | .dup2 => match st with
    | v :: w :: r => v.category = 1 ∧ w.category = 1 ∧ k (pc + 1) loc (v :: w :: v :: w :: r) lay μ bc bs
    | _ => False
  | .pop => match st with
    | v :: r => v.category = 1 ∧ k (pc + 1) loc r lay μ bc bs
    | _ => False
  | .goto _ => k t loc st lay μ bc bs
  | .if_icmp c _ => p2 st (fun x y r => brI c x y (k t loc r lay μ bc bs) (k (pc + 3) loc r lay μ bc bs))
  | .ifCond c _ => p1 st (fun x r => brI c x 0 (k t loc r lay μ bc bs) (k (pc + 3) loc r lay μ bc bs))
  | .ifnull _ => match st with
    | .ref _ :: r => k (pc + 3) loc r lay μ bc bs
    | .null :: r => k t loc r lay μ bc bs
    | _ => False
  | .ifnonnull _ => match st with
    | .ref _ :: r => k t loc r lay μ bc bs
    | .null :: r => k (pc + 3) loc r lay μ bc bs
    | _ => False
  | .tableswitch df lo hi os => p1 st (fun x r => ((x.toInt < lo ∨ hi < x.toInt) → k ((pc : Int) + df).toNat loc r lay μ bc bs) ∧ lo + os.size = hi + 1 ∧ swt x pc lo os.toList (fun t => k t loc r lay μ bc bs))
  | .lookupswitch df os => p1 st (fun x r => swl x pc df os.toList (fun t => k t loc r lay μ bc bs))
  | .getfield n => match fl (inf M).1 n with
    | some (ci, kk, kd) => pr st (fun a r => match lay[a]? with
      | some sh => sh.1 = ci + 6 ∧ gfld kd sh a μ kk (fun v => k (pc + 3) loc (v :: r) lay μ bc bs)
      | none => False)
    | none => False
  | .putfield n => match fl (inf M).1 n with
    | some (ci, kk, kd) => pfld kd st (fun v a r => match lay[a]? with
      | some sh => sh.1 = ci + 6 ∧ (kd = 2 → (inf M).2.2.2.1 = 2 ∧ (inf M).1 = ci ∨ (TT ci kk).2.2.2 = false) ∧ sfld lay μ sh a kk v (fun lay' μ' => k (pc + 3) loc r lay' μ' bc bs)
      | none => False)
    | none => False
  | .iaload => pa st (fun i a r => match lay[a]? with
      | some sh => sh.1 = 0 ∧ vp_in i sh.2.1 ∧ k (pc + 1) loc (.int (gi μ a i.toNatClampNeg) :: r) lay μ bc bs
      | none => False) (fun i r => M.1 = 99 ∧ vp_in i G.sL ∧ k (pc + 1) loc (.int (G.xs i.toNatClampNeg) :: r) lay μ bc bs)
  | .baload => pa st (fun i a r => match lay[a]? with
      | some sh => (sh.1 = 1 ∨ sh.1 = 2) ∧ vp_in i sh.2.1 ∧ k (pc + 1) loc (.int (gi μ a i.toNatClampNeg) :: r) lay μ bc bs
      | none => False) (fun _ _ => False)
  | .laload => pa st (fun i a r => match lay[a]? with
      | some sh => sh.1 = 3 ∧ vp_in i sh.2.1 ∧ k (pc + 1) loc (.long (gl μ a i.toNatClampNeg) :: r) lay μ bc bs
      | none => False) (fun _ _ => False)
  | .aaload => pa st (fun i a r => match lay[a]? with
      | some sh => vp_in i sh.2.1 ∧ (match sh.2.2 with
        | some b :: some c :: _ => i.toNatClampNeg < c ∧ (sh.1 = 4 ∧ k (pc + 1) loc (.ref (b + 1 * i.toNatClampNeg) :: r) lay μ bc bs ∨ sh.1 = 5 ∧ k (pc + 1) loc (.ref (b + 5 * i.toNatClampNeg) :: r) lay μ bc bs)
        | _ => False)
      | none => False) (fun _ _ => False)
  | .arraylength => match st with
    | .ref a :: r => match lay[a]? with
      | some sh => sh.1 < 6 ∧ k (pc + 1) loc (.int (nI sh.2.1) :: r) lay μ bc bs
      | none => False
    | .float _ :: r => M.1 = 99 ∧ k (pc + 1) loc (.int (nI G.sL) :: r) lay μ bc bs
    | _ => False
  | .iastore => pst st (fun x i a r => match lay[a]? with
      | some sh => sh.1 = 0 ∧ vp_in i sh.2.1 ∧ k (pc + 1) loc r lay (si μ a i.toNatClampNeg x) bc bs
      | none => False)
  | .bastore => pst st (fun x i a r => match lay[a]? with
      | some sh => vp_in i sh.2.1 ∧ (sh.1 = 1 ∧ k (pc + 1) loc r lay (si μ a i.toNatClampNeg (vp_nar .boolean x)) bc bs ∨ sh.1 = 2 ∧ k (pc + 1) loc r lay (si μ a i.toNatClampNeg (vp_nar .byte x)) bc bs)
      | none => False)
  | .lastore => qst st (fun x i a r => match lay[a]? with
      | some sh => sh.1 = 3 ∧ vp_in i sh.2.1 ∧ k (pc + 1) loc r lay (sl μ a i.toNatClampNeg x) bc bs
      | none => False)
  | .aastore => rst st (fun x i a r => match lay[a]?, lay[x]? with
      | some sh, some sx => sh.1 = 5 ∧ sx.1 = 13 ∧ vp_in i sh.2.1 ∧ (match sh.2.2 with
        | some b :: some c :: _ => i.toNatClampNeg = c ∧ x = b + 5 * c ∧ k (pc + 1) loc r (lay.set a (5, sh.2.1, [some b, some (c + 1)])) μ bc bs
        | _ => i.toNatClampNeg = 0 ∧ sh.2.2 = [] ∧ k (pc + 1) loc r (lay.set a (5, sh.2.1, [some x, some 1])) μ bc bs)
      | _, _ => False)
  | .new n => match nlk (inf M).1 n with
    | some ci => 1 ≤ bc ∧ NF ci ≤ bs ∧ k (pc + 3) loc (.ref lay.length :: st) (lay ++ [(ci + 6, NF ci, List.replicate (NF ci) none)]) (clr μ lay.length) (bc - 1) (bs - NF ci)
    | none => False
  | .newarray t => p1 st (fun n r => ¬ n < 0 ∧ atk t < 4 ∧ n.toNatClampNeg ≤ 60000000 ∧ 1 ≤ bc ∧ n.toNatClampNeg ≤ bs ∧ k (pc + 2) loc (.ref lay.length :: r) (lay ++ [(atk t, n.toNatClampNeg, [])]) (clr μ lay.length) (bc - 1) (bs - n.toNatClampNeg))
  | .anewarray n => p1 st (fun c r => (inf M).1 = 5 ∧ n = 9 ∧ ¬ c < 0 ∧ c.toNatClampNeg ≤ 60000000 ∧ 1 ≤ bc ∧ c.toNatClampNeg ≤ bs ∧ k (pc + 3) loc (.ref lay.length :: r) (lay ++ [(5, c.toNatClampNeg, [])]) (clr μ lay.length) (bc - 1) (bs - c.toNatClampNeg))
  | .multianewarray n m => p2 st (fun c w r => ((inf M).1, n) ∈ [(5, 21), (4, 21), (0, 9)] ∧ m = 2 ∧ ¬ c < 0 ∧ ¬ w < 0 ∧ c.toNatClampNeg ≤ 60000000 ∧ w.toNatClampNeg ≤ 60000000 ∧ 1 + c.toNatClampNeg ≤ bc ∧ c.toNatClampNeg + c.toNatClampNeg * w.toNatClampNeg ≤ bs ∧ k (pc + 4) loc (.ref lay.length :: r) (lay ++ (4, c.toNatClampNeg, [some (lay.length + 1), some c.toNatClampNeg]) :: List.replicate c.toNatClampNeg (0, w.toNatClampNeg, [])) (clrN μ lay.length (1 + c.toNatClampNeg)) (bc - (1 + c.toNatClampNeg)) (bs - (c.toNatClampNeg + c.toNatClampNeg * w.toNatClampNeg)))
  | .invokestatic n => match jlk (inf M).1 n with
    | some 1 => p2 st (fun x y r => szs r ≤ 8 ∧ 0 < d ∧ k (pc + 3) loc (.int (if x < y then y else x) :: r) lay μ bc bs)
    | some 2 => p2 st (fun x y r => szs r ≤ 8 ∧ 0 < d ∧ k (pc + 3) loc (.int (if y < x then y else x) :: r) lay μ bc bs)
    | some 3 => p1 st (fun x r => szs r ≤ 8 ∧ 0 < d ∧ k (pc + 3) loc (.int (if 0 ≤ x then x else 0 - x) :: r) lay μ bc bs)
    | some 4 => pac st (fun n dp a sp a0 r => szs r ≤ 8 ∧ 0 < d ∧ ¬ sp < 0 ∧ ¬ dp < 0 ∧ ¬ n < 0 ∧ (match lay[a0]?, lay[a]? with
      | some s0, some s1 => s0.1 = s1.1 ∧ sp.toNatClampNeg + n.toNatClampNeg ≤ s0.2.1 ∧ dp.toNatClampNeg + n.toNatClampNeg ≤ s1.2.1 ∧ (s0.1 = 0 ∨ s0.1 = 1 ∧ ∀ i, i < n.toNatClampNeg → (gi μ a0 (sp.toNatClampNeg + i) = 0 ∨ gi μ a0 (sp.toNatClampNeg + i) = 1)) ∧ k (pc + 3) loc r lay (sar μ a (va_cpy (μ.1 a0) (μ.1 a) sp.toNatClampNeg dp.toNatClampNeg n.toNatClampNeg)) bc bs
      | _, _ => False))
    | some _ => False
    | none => match mlk (inf M).1 n with
      | some N => (inf N).2.2.2.1 = 0 ∧ 0 < d ∧ pargs (inf N).2.2.1 [] st (fun av r => szs r ≤ 8 ∧ KC G (d - 1) N av lay μ bc bs (fun w lay' μ' bc' bs' => k (pc + 3) loc (pushv w r) lay' μ' bc' bs'))
      | none => False
  | .invokevirtual n => match mlk (inf M).1 n with
      | some N => (inf N).2.2.2.1 = 1 ∧ 0 < d ∧ pargs (inf N).2.2.1 [] st (fun av r => szs r ≤ 8 ∧ rcv lay (inf N).1 av ∧ KC G (d - 1) N av lay μ bc bs (fun w lay' μ' bc' bs' => k (pc + 3) loc (pushv w r) lay' μ' bc' bs'))
      | none => False
  | .invokespecial n => match jlk (inf M).1 n with
    | some 5 => pr st (fun _ r => szs r ≤ 8 ∧ 0 < d ∧ k (pc + 3) loc r lay μ bc bs)
    | some _ => False
    | none => match mlk (inf M).1 n with
      | some N => (inf N).2.2.2.1 = 2 ∧ 0 < d ∧ pargs (inf N).2.2.1 [] st (fun av r => szs r ≤ 8 ∧ rcv lay (inf N).1 av ∧ KC G (d - 1) N av lay μ bc bs (fun w lay' μ' bc' bs' => k (pc + 3) loc (pushv w r) lay' μ' bc' bs'))
      | none => False
  | .ireturn => match st with
    | [.int x] => rok (inf M).2.1 x ∧ Qa (some (.int x)) lay μ
    | _ => False
  | .lreturn => match st with
    | [.long x] => (inf M).2.1 = 2 ∧ Qa (some (.long x)) lay μ
    | _ => False
  | .return_ => match st with
    | [] => (inf M).2.1 = 0 ∧ Qa none lay μ
    | _ => False
  | _ => False
/-- n instructions from here on, but not past a stop; Z: what is asked there -/
def wp (G : Gx) (d : Nat) (M : MI) (Qa : Option Value → List Sh → Mem → Prop) (Z : Kt) (stops : List Nat) : Nat → Kt
  | 0, pc, loc, st, lay, μ, bc, bs => Z pc loc st lay μ bc bs
  | n + 1, pc, loc, st, lay, μ, bc, bs => match dcd M pc with
    | some (i, len, t, v) => exec1 G d M Qa i len t v pc loc st lay μ bc bs (fun pc loc st lay μ bc bs => bif stops.elem pc then Z pc loc st lay μ bc bs else wp G d M Qa Z stops n pc loc st lay μ bc bs)
    | none => False
end
section
/-- what holds of a frame of M from its start on -/
def Bd (G : Gx) (d : Nat) (M : MI) (MC MS : Nat) (p : Program) (R : Room) (s : State) (m : MethodId) (args : Array Value) (meth : Method) (c : Code) : Prop :=
  p.tables.exec = Jvm.exec ∧ c.code = M.cd ∧ c.maxLocals = M.ml ∧ s.vm.findClass M.yn.cls = some m.cls ∧ (∀ w ∈ gtbl, w.before args s = true) ∧ va_K G.D vwCl (tys G) s ∧ XW s ∧ (M.yn.name = "<init>" → meth.name = "<init>") ∧ cn M.1 = M.yn.cls ∧ G.z ≤ s.heap.size ∧ d ≤ R.frames ∧ 64 * d ≤ R.locals ∧ R.cells = MC ∧ R.slots = MS ∧ (M.1 = 99 → va_X G.sb G.sL G.xs s s.heap ∧ G.sb < G.z)
def VZ (G : Gx) (M : MI) (MC MS : Nat) (p : Program) (e : Env) (R : Room) (s : State) (m : MethodId) (args : Array Value) (below : List Frame) (meth : Method) (c : Code) (Qs : State → Prop) : Kt := fun pc loc st lay μ bc bs =>
  ∀ (H : Heap) (locs : List Loc) (cells slots : Nat) (ls : Array Slot), Lok G ls M.ml loc → va_P G.D vwCl (wl G lay μ) H → H.size = G.z + lay.length → va_S (fun q => G.z ≤ q) s.heap H locs → cells + bc ≤ MC → slots + bs ≤ MS → W p G.1 e R s m args below meth c H locs cells slots Qs (F0 m pc ls (st.map (cv G)))
/-- a return is the end that is wanted -/
def RetOK (G : Gx) (M : MI) (MC MS : Nat) (p : Program) (e : Env) (R : Room) (s : State) (m : MethodId) (args : Array Value) (below : List Frame) (meth : Method) (c : Code) (Qs : State → Prop) (Qa : Option Value → List Sh → Mem → Prop) : Prop :=
  ∀ (v : Option Value) (lay : List Sh) (μ : Mem) (H : Heap) (locs : List Loc) (cells slots : Nat) (ls : Array Slot) (pc : Nat), Qa v lay μ → (match v with
    | none => decode M.cd pc = .ok (.return_, 1) ∧ (inf M).2.1 = 0
    | some (.int x) => decode M.cd pc = .ok (.ireturn, 1) ∧ rok (inf M).2.1 x
    | some (.long _) => decode M.cd pc = .ok (.lreturn, 1) ∧ (inf M).2.1 = 2
    | _ => False) → va_P G.D vwCl (wl G lay μ) H → H.size = G.z + lay.length → va_S (fun q => G.z ≤ q) s.heap H locs → cells ≤ MC → slots ≤ MS → W p G.1 e R s m args below meth c H locs cells slots Qs (F0 m pc ls (v.toList.map (cv G)))
theorem si_ent {G : Gx} {μ : Mem} {a k : Nat} {x : Int32} (b : Nat) (sh : Sh) (h : b ≠ a) : ent G sh b (si μ a k x) = ent G sh b μ := by
  unfold ent fvs fv si
  simp only [if_neg h]
theorem sl_ent {G : Gx} {μ : Mem} {a k : Nat} {x : Int64} (b : Nat) (sh : Sh) (h : b ≠ a) : ent G sh b (sl μ a k x) = ent G sh b μ := by
  unfold ent fvs fv sl
  simp only [if_neg h]
theorem sar_ent {G : Gx} {μ : Mem} {a : Nat} {f : Nat → Int32} (b : Nat) (sh : Sh) (h : b ≠ a) : ent G sh b (sar μ a f) = ent G sh b μ := by
  unfold ent fvs fv sar
  simp only [if_neg h]
theorem clr_ent {G : Gx} {μ : Mem} {a : Nat} (b : Nat) (sh : Sh) (h : b ≠ a) : ent G sh b (clr μ a) = ent G sh b μ := by
  unfold ent fvs fv clr
  simp only [if_neg h]
theorem set_same {lay : List Sh} {a : Nat} {sh : Sh} (h : lay[a]? = some sh) : lay.set a sh = lay := by
  apply List.ext_getElem?
  intro i
  by_cases e : i = a
  · subst e
    rw [List.getElem?_set_self (List.getElem?_eq_some_iff.mp h).1, h]
  · rw [List.getElem?_set_ne (Ne.symm e)]
section SND
variable {G : Gx} {d : Nat} {M : MI} {MC MS : Nat} {p : Program} {e : Env} {R : Room} {s : State} {m : MethodId} {args : Array Value} {below : List Frame} {meth : Method} {c : Code} {Qs : State → Prop} {Qa : Option Value → List Sh → Mem → Prop} {pc : Nat} {loc : XV} {st : List Value} {lay : List Sh} {μ : Mem} {bc bs : Nat}
theorem s_iadd (hB : Bd G d M MC MS p R s m args meth c) (hd : decode M.cd pc = .ok (.iadd, 1)) (h : p2 st (fun x y r => VZ G M MC MS p e R s m args below meth c Qs (pc + 1) loc (.int (x + y) :: r) lay μ bc bs)) : VZ G M MC MS p e R s m args below meth c Qs pc loc st lay μ bc bs := by
  unfold p2 at h
  split at h
  · intro H locs cells slots ls hl hP hz hS hc hs
    exact lv_iadd hB.1 hB.2.1 hd (h H locs cells slots ls hl hP hz hS hc hs)
  · exact h.elim
theorem s_isub (hB : Bd G d M MC MS p R s m args meth c) (hd : decode M.cd pc = .ok (.isub, 1)) (h : p2 st (fun x y r => VZ G M MC MS p e R s m args below meth c Qs (pc + 1) loc (.int (x - y) :: r) lay μ bc bs)) : VZ G M MC MS p e R s m args below meth c Qs pc loc st lay μ bc bs := by
  unfold p2 at h
  split at h
  · intro H locs cells slots ls hl hP hz hS hc hs
    exact lv_isub hB.1 hB.2.1 hd (h H locs cells slots ls hl hP hz hS hc hs)
  · exact h.elim
theorem s_imul (hB : Bd G d M MC MS p R s m args meth c) (hd : decode M.cd pc = .ok (.imul, 1)) (h : p2 st (fun x y r => VZ G M MC MS p e R s m args below meth c Qs (pc + 1) loc (.int (x * y) :: r) lay μ bc bs)) : VZ G M MC MS p e R s m args below meth c Qs pc loc st lay μ bc bs := by
  unfold p2 at h
  split at h
  · intro H locs cells slots ls hl hP hz hS hc hs
    exact lv_imul hB.1 hB.2.1 hd (h H locs cells slots ls hl hP hz hS hc hs)
  · exact h.elim
theorem s_iand (hB : Bd G d M MC MS p R s m args meth c) (hd : decode M.cd pc = .ok (.iand, 1)) (h : p2 st (fun x y r => VZ G M MC MS p e R s m args below meth c Qs (pc + 1) loc (.int (x &&& y) :: r) lay μ bc bs)) : VZ G M MC MS p e R s m args below meth c Qs pc loc st lay μ bc bs := by
  unfold p2 at h
  split at h
  · intro H locs cells slots ls hl hP hz hS hc hs
    exact lv_iand hB.1 hB.2.1 hd (h H locs cells slots ls hl hP hz hS hc hs)
  · exact h.elim
theorem s_ior (hB : Bd G d M MC MS p R s m args meth c) (hd : decode M.cd pc = .ok (.ior, 1)) (h : p2 st (fun x y r => VZ G M MC MS p e R s m args below meth c Qs (pc + 1) loc (.int (x ||| y) :: r) lay μ bc bs)) : VZ G M MC MS p e R s m args below meth c Qs pc loc st lay μ bc bs := by
  unfold p2 at h
  split at h
  · intro H locs cells slots ls hl hP hz hS hc hs
    exact lv_ior hB.1 hB.2.1 hd (h H locs cells slots ls hl hP hz hS hc hs)
  · exact h.elim
theorem s_ixor (hB : Bd G d M MC MS p R s m args meth c) (hd : decode M.cd pc = .ok (.ixor, 1)) (h : p2 st (fun x y r => VZ G M MC MS p e R s m args below meth c Qs (pc + 1) loc (.int (x ^^^ y) :: r) lay μ bc bs)) : VZ G M MC MS p e R s m args below meth c Qs pc loc st lay μ bc bs := by
  unfold p2 at h
  split at h
  · intro H locs cells slots ls hl hP hz hS hc hs
    exact lv_ixor hB.1 hB.2.1 hd (h H locs cells slots ls hl hP hz hS hc hs)
  · exact h.elim
theorem s_ishl (hB : Bd G d M MC MS p R s m args meth c) (hd : decode M.cd pc = .ok (.ishl, 1)) (h : p2 st (fun x y r => VZ G M MC MS p e R s m args below meth c Qs (pc + 1) loc (.int (x <<< (y &&& 31)) :: r) lay μ bc bs)) : VZ G M MC MS p e R s m args below meth c Qs pc loc st lay μ bc bs := by
  unfold p2 at h
  split at h
  · intro H locs cells slots ls hl hP hz hS hc hs
    exact lv_ishl hB.1 hB.2.1 hd (h H locs cells slots ls hl hP hz hS hc hs)
  · exact h.elim
theorem s_ishr (hB : Bd G d M MC MS p R s m args meth c) (hd : decode M.cd pc = .ok (.ishr, 1)) (h : p2 st (fun x y r => VZ G M MC MS p e R s m args below meth c Qs (pc + 1) loc (.int (x >>> (y &&& 31)) :: r) lay μ bc bs)) : VZ G M MC MS p e R s m args below meth c Qs pc loc st lay μ bc bs := by
  unfold p2 at h
  split at h
  · intro H locs cells slots ls hl hP hz hS hc hs
    exact lv_ishr hB.1 hB.2.1 hd (h H locs cells slots ls hl hP hz hS hc hs)
  · exact h.elim
theorem s_iushr (hB : Bd G d M MC MS p R s m args meth c) (hd : decode M.cd pc = .ok (.iushr, 1)) (h : p2 st (fun x y r => VZ G M MC MS p e R s m args below meth c Qs (pc + 1) loc (.int (x.toUInt32 >>> (y.toUInt32 &&& Int32.toUInt32 31)).toInt32 :: r) lay μ bc bs)) : VZ G M MC MS p e R s m args below meth c Qs pc loc st lay μ bc bs := by
  unfold p2 at h
  split at h
  · intro H locs cells slots ls hl hP hz hS hc hs
    exact lv_iushr hB.1 hB.2.1 hd rfl (h H locs cells slots ls hl hP hz hS hc hs)
  · exact h.elim
theorem s_idiv (hB : Bd G d M MC MS p R s m args meth c) (hd : decode M.cd pc = .ok (.idiv, 1)) (h : p2 st (fun x y r => ¬ y = 0 ∧ VZ G M MC MS p e R s m args below meth c Qs (pc + 1) loc (.int (x / y) :: r) lay μ bc bs)) : VZ G M MC MS p e R s m args below meth c Qs pc loc st lay μ bc bs := by
  unfold p2 at h
  split at h
  · intro H locs cells slots ls hl hP hz hS hc hs
    exact lv_idiv hB.1 hB.2.1 hd h.1 (h.2 H locs cells slots ls hl hP hz hS hc hs)
  · exact h.elim
theorem s_irem (hB : Bd G d M MC MS p R s m args meth c) (hd : decode M.cd pc = .ok (.irem, 1)) (h : p2 st (fun x y r => ¬ y = 0 ∧ VZ G M MC MS p e R s m args below meth c Qs (pc + 1) loc (.int (x - x / y * y) :: r) lay μ bc bs)) : VZ G M MC MS p e R s m args below meth c Qs pc loc st lay μ bc bs := by
  unfold p2 at h
  split at h
  · intro H locs cells slots ls hl hP hz hS hc hs
    exact lv_irem hB.1 hB.2.1 hd h.1 (h.2 H locs cells slots ls hl hP hz hS hc hs)
  · exact h.elim
theorem s_ineg (hB : Bd G d M MC MS p R s m args meth c) (hd : decode M.cd pc = .ok (.ineg, 1)) (h : p1 st (fun x r => VZ G M MC MS p e R s m args below meth c Qs (pc + 1) loc (.int (-x) :: r) lay μ bc bs)) : VZ G M MC MS p e R s m args below meth c Qs pc loc st lay μ bc bs := by
  unfold p1 at h
  split at h
  · intro H locs cells slots ls hl hP hz hS hc hs
    exact lv_ineg hB.1 hB.2.1 hd (h H locs cells slots ls hl hP hz hS hc hs)
  · exact h.elim
theorem s_ladd (hB : Bd G d M MC MS p R s m args meth c) (hd : decode M.cd pc = .ok (.ladd, 1)) (h : q2 st (fun x y r => VZ G M MC MS p e R s m args below meth c Qs (pc + 1) loc (.long (x + y) :: r) lay μ bc bs)) : VZ G M MC MS p e R s m args below meth c Qs pc loc st lay μ bc bs := by
  unfold q2 at h
  split at h
  · intro H locs cells slots ls hl hP hz hS hc hs
    exact lv_ladd hB.1 hB.2.1 hd (h H locs cells slots ls hl hP hz hS hc hs)
  · exact h.elim
theorem s_lmul (hB : Bd G d M MC MS p R s m args meth c) (hd : decode M.cd pc = .ok (.lmul, 1)) (h : q2 st (fun x y r => VZ G M MC MS p e R s m args below meth c Qs (pc + 1) loc (.long (x * y) :: r) lay μ bc bs)) : VZ G M MC MS p e R s m args below meth c Qs pc loc st lay μ bc bs := by
  unfold q2 at h
  split at h
  · intro H locs cells slots ls hl hP hz hS hc hs
    exact lv_lmul hB.1 hB.2.1 hd (h H locs cells slots ls hl hP hz hS hc hs)
  · exact h.elim
theorem s_lor (hB : Bd G d M MC MS p R s m args meth c) (hd : decode M.cd pc = .ok (.lor, 1)) (h : q2 st (fun x y r => VZ G M MC MS p e R s m args below meth c Qs (pc + 1) loc (.long (x ||| y) :: r) lay μ bc bs)) : VZ G M MC MS p e R s m args below meth c Qs pc loc st lay μ bc bs := by
  unfold q2 at h
  split at h
  · intro H locs cells slots ls hl hP hz hS hc hs
    exact lv_lor hB.1 hB.2.1 hd (h H locs cells slots ls hl hP hz hS hc hs)
  · exact h.elim
theorem s_land (hB : Bd G d M MC MS p R s m args meth c) (hd : decode M.cd pc = .ok (.land, 1)) (h : q2 st (fun x y r => VZ G M MC MS p e R s m args below meth c Qs (pc + 1) loc (.long (x &&& y) :: r) lay μ bc bs)) : VZ G M MC MS p e R s m args below meth c Qs pc loc st lay μ bc bs := by
  unfold q2 at h
  split at h
  · intro H locs cells slots ls hl hP hz hS hc hs
    exact lv_land hB.1 hB.2.1 hd (h H locs cells slots ls hl hP hz hS hc hs)
  · exact h.elim
theorem s_lcmp (hB : Bd G d M MC MS p R s m args meth c) (hd : decode M.cd pc = .ok (.lcmp, 1)) (h : q2 st (fun x y r => VZ G M MC MS p e R s m args below meth c Qs (pc + 1) loc (.int (lg_cmp x y) :: r) lay μ bc bs)) : VZ G M MC MS p e R s m args below meth c Qs pc loc st lay μ bc bs := by
  unfold q2 at h
  split at h
  · intro H locs cells slots ls hl hP hz hS hc hs
    exact W.lcmp hB.1 hB.2.1 hd (h H locs cells slots ls hl hP hz hS hc hs)
  · exact h.elim
theorem s_lshl (hB : Bd G d M MC MS p R s m args meth c) (hd : decode M.cd pc = .ok (.lshl, 1)) (h : qi st (fun x y r => VZ G M MC MS p e R s m args below meth c Qs (pc + 1) loc (.long (x <<< (y.toInt64 &&& 63)) :: r) lay μ bc bs)) : VZ G M MC MS p e R s m args below meth c Qs pc loc st lay μ bc bs := by
  unfold qi at h
  split at h
  · intro H locs cells slots ls hl hP hz hS hc hs
    exact lv_lshl hB.1 hB.2.1 hd rfl (h H locs cells slots ls hl hP hz hS hc hs)
  · exact h.elim
theorem s_lshr (hB : Bd G d M MC MS p R s m args meth c) (hd : decode M.cd pc = .ok (.lshr, 1)) (h : qi st (fun x y r => VZ G M MC MS p e R s m args below meth c Qs (pc + 1) loc (.long (x >>> (y.toInt64 &&& 63)) :: r) lay μ bc bs)) : VZ G M MC MS p e R s m args below meth c Qs pc loc st lay μ bc bs := by
  unfold qi at h
  split at h
  · intro H locs cells slots ls hl hP hz hS hc hs
    exact lv_lshr hB.1 hB.2.1 hd rfl (h H locs cells slots ls hl hP hz hS hc hs)
  · exact h.elim
theorem s_i2l (hB : Bd G d M MC MS p R s m args meth c) (hd : decode M.cd pc = .ok (.i2l, 1)) (h : p1 st (fun x r => VZ G M MC MS p e R s m args below meth c Qs (pc + 1) loc (.long x.toInt64 :: r) lay μ bc bs)) : VZ G M MC MS p e R s m args below meth c Qs pc loc st lay μ bc bs := by
  unfold p1 at h
  split at h
  · intro H locs cells slots ls hl hP hz hS hc hs
    exact lv_i2l hB.1 hB.2.1 hd rfl (h H locs cells slots ls hl hP hz hS hc hs)
  · exact h.elim
theorem s_i2b (hB : Bd G d M MC MS p R s m args meth c) (hd : decode M.cd pc = .ok (.i2b, 1)) (h : p1 st (fun x r => VZ G M MC MS p e R s m args below meth c Qs (pc + 1) loc (.int x.toInt8.toInt32 :: r) lay μ bc bs)) : VZ G M MC MS p e R s m args below meth c Qs pc loc st lay μ bc bs := by
  unfold p1 at h
  split at h
  · intro H locs cells slots ls hl hP hz hS hc hs
    exact lv_i2b hB.1 hB.2.1 hd rfl (h H locs cells slots ls hl hP hz hS hc hs)
  · exact h.elim
theorem s_iload (hB : Bd G d M MC MS p R s m args meth c) {n : Nat} (hd : decode M.cd pc = .ok (.iload n, 2)) (h : match lget loc n with | some (.int x) => VZ G M MC MS p e R s m args below meth c Qs (pc + 2) loc (.int x :: st) lay μ bc bs | _ => False) : VZ G M MC MS p e R s m args below meth c Qs pc loc st lay μ bc bs := by
  split at h
  · rename_i x hx
    intro H locs cells slots ls hl hP hz hS hc hs
    exact lv_iload hB.1 hB.2.1 hd (hl.get hx) (h H locs cells slots ls hl hP hz hS hc hs)
  · exact h.elim
theorem s_iload_n (hB : Bd G d M MC MS p R s m args meth c) {f : Fin 4} (hd : decode M.cd pc = .ok (.iload_n f, 1)) (h : match lget loc (f : Nat) with | some (.int x) => VZ G M MC MS p e R s m args below meth c Qs (pc + 1) loc (.int x :: st) lay μ bc bs | _ => False) : VZ G M MC MS p e R s m args below meth c Qs pc loc st lay μ bc bs := by
  split at h
  · rename_i x hx
    intro H locs cells slots ls hl hP hz hS hc hs
    exact lv_iload_n hB.1 hB.2.1 hd rfl (hl.get hx) (h H locs cells slots ls hl hP hz hS hc hs)
  · exact h.elim
theorem s_lload (hB : Bd G d M MC MS p R s m args meth c) {n : Nat} (hd : decode M.cd pc = .ok (.lload n, 2)) (h : match lget loc n with | some (.long x) => VZ G M MC MS p e R s m args below meth c Qs (pc + 2) loc (.long x :: st) lay μ bc bs | _ => False) : VZ G M MC MS p e R s m args below meth c Qs pc loc st lay μ bc bs := by
  split at h
  · rename_i x hx
    intro H locs cells slots ls hl hP hz hS hc hs
    exact lv_lload hB.1 hB.2.1 hd (hl.get hx) (h H locs cells slots ls hl hP hz hS hc hs)
  · exact h.elim
theorem s_lload_n (hB : Bd G d M MC MS p R s m args meth c) {f : Fin 4} (hd : decode M.cd pc = .ok (.lload_n f, 1)) (h : match lget loc (f : Nat) with | some (.long x) => VZ G M MC MS p e R s m args below meth c Qs (pc + 1) loc (.long x :: st) lay μ bc bs | _ => False) : VZ G M MC MS p e R s m args below meth c Qs pc loc st lay μ bc bs := by
  split at h
  · rename_i x hx
    intro H locs cells slots ls hl hP hz hS hc hs
    exact lv_lload_n hB.1 hB.2.1 hd rfl (hl.get hx) (h H locs cells slots ls hl hP hz hS hc hs)
  · exact h.elim
theorem s_aload (hB : Bd G d M MC MS p R s m args meth c) {n : Nat} (hd : decode M.cd pc = .ok (.aload n, 2)) (h : match lget loc n with | some (.ref x) => VZ G M MC MS p e R s m args below meth c Qs (pc + 2) loc (.ref x :: st) lay μ bc bs | some (.float x) => VZ G M MC MS p e R s m args below meth c Qs (pc + 2) loc (.float x :: st) lay μ bc bs | _ => False) : VZ G M MC MS p e R s m args below meth c Qs pc loc st lay μ bc bs := by
  split at h
  · rename_i x hx
    intro H locs cells slots ls hl hP hz hS hc hs
    exact lv_aload hB.1 hB.2.1 hd (hl.get hx) (h H locs cells slots ls hl hP hz hS hc hs)
  · rename_i x hx
    intro H locs cells slots ls hl hP hz hS hc hs
    exact lv_aload hB.1 hB.2.1 hd (hl.get hx) (h H locs cells slots ls hl hP hz hS hc hs)
  · exact h.elim
theorem s_aload_n (hB : Bd G d M MC MS p R s m args meth c) {f : Fin 4} (hd : decode M.cd pc = .ok (.aload_n f, 1)) (h : match lget loc (f : Nat) with | some (.ref x) => VZ G M MC MS p e R s m args below meth c Qs (pc + 1) loc (.ref x :: st) lay μ bc bs | some (.float x) => VZ G M MC MS p e R s m args below meth c Qs (pc + 1) loc (.float x :: st) lay μ bc bs | _ => False) : VZ G M MC MS p e R s m args below meth c Qs pc loc st lay μ bc bs := by
  split at h
  · rename_i x hx
    intro H locs cells slots ls hl hP hz hS hc hs
    exact lv_aload_n hB.1 hB.2.1 hd rfl (hl.get hx) (h H locs cells slots ls hl hP hz hS hc hs)
  · rename_i x hx
    intro H locs cells slots ls hl hP hz hS hc hs
    exact lv_aload_n hB.1 hB.2.1 hd rfl (hl.get hx) (h H locs cells slots ls hl hP hz hS hc hs)
  · exact h.elim
theorem s_istore (hB : Bd G d M MC MS p R s m args meth c) {n : Nat} (hd : decode M.cd pc = .ok (.istore n, 2)) (h : p1 st (fun x r => match lset loc n (.int x) with | some l => VZ G M MC MS p e R s m args below meth c Qs (pc + 2) l r lay μ bc bs | none => False)) : VZ G M MC MS p e R s m args below meth c Qs pc loc st lay μ bc bs := by
  unfold p1 at h
  split at h
  · split at h
    · rename_i hx
      intro H locs cells slots ls hl hP hz hS hc hs
      obtain ⟨hlt, hset⟩ := hl.set hx
      exact lv_istore hB.1 hB.2.1 hd hl.1 hlt rfl (fun ls2 hl2 => h H locs cells slots ls2 (hset ls2 hl2) hP hz hS hc hs)
    · exact h.elim
  · exact h.elim
theorem s_istore_n (hB : Bd G d M MC MS p R s m args meth c) {f : Fin 4} (hd : decode M.cd pc = .ok (.istore_n f, 1)) (h : p1 st (fun x r => match lset loc (f : Nat) (.int x) with | some l => VZ G M MC MS p e R s m args below meth c Qs (pc + 1) l r lay μ bc bs | none => False)) : VZ G M MC MS p e R s m args below meth c Qs pc loc st lay μ bc bs := by
  unfold p1 at h
  split at h
  · split at h
    · rename_i hx
      intro H locs cells slots ls hl hP hz hS hc hs
      obtain ⟨hlt, hset⟩ := hl.set hx
      exact lv_istore_n hB.1 hB.2.1 hd rfl hl.1 hlt rfl (fun ls2 hl2 => h H locs cells slots ls2 (hset ls2 hl2) hP hz hS hc hs)
    · exact h.elim
  · exact h.elim
theorem s_lstore (hB : Bd G d M MC MS p R s m args meth c) {n : Nat} (hd : decode M.cd pc = .ok (.lstore n, 2)) (h : q1 st (fun x r => match lset2 loc n (.long x) with | some l => VZ G M MC MS p e R s m args below meth c Qs (pc + 2) l r lay μ bc bs | none => False)) : VZ G M MC MS p e R s m args below meth c Qs pc loc st lay μ bc bs := by
  unfold q1 at h
  split at h
  · split at h
    · rename_i hx
      intro H locs cells slots ls hl hP hz hS hc hs
      obtain ⟨hlt, hset⟩ := hl.set2 hx
      exact lv_lstore hB.1 hB.2.1 hd hl.1 hlt rfl (fun ls2 hl2 => h H locs cells slots ls2 (hset ls2 hl2) hP hz hS hc hs)
    · exact h.elim
  · exact h.elim
theorem s_lstore_n (hB : Bd G d M MC MS p R s m args meth c) {f : Fin 4} (hd : decode M.cd pc = .ok (.lstore_n f, 1)) (h : q1 st (fun x r => match lset2 loc (f : Nat) (.long x) with | some l => VZ G M MC MS p e R s m args below meth c Qs (pc + 1) l r lay μ bc bs | none => False)) : VZ G M MC MS p e R s m args below meth c Qs pc loc st lay μ bc bs := by
  unfold q1 at h
  split at h
  · split at h
    · rename_i hx
      intro H locs cells slots ls hl hP hz hS hc hs
      obtain ⟨hlt, hset⟩ := hl.set2 hx
      exact lv_lstore_n hB.1 hB.2.1 hd rfl hl.1 hlt rfl (fun ls2 hl2 => h H locs cells slots ls2 (hset ls2 hl2) hP hz hS hc hs)
    · exact h.elim
  · exact h.elim
theorem s_astore (hB : Bd G d M MC MS p R s m args meth c) {n : Nat} (hd : decode M.cd pc = .ok (.astore n, 2)) (h : pr st (fun x r => match lset loc n (.ref x) with | some l => VZ G M MC MS p e R s m args below meth c Qs (pc + 2) l r lay μ bc bs | none => False)) : VZ G M MC MS p e R s m args below meth c Qs pc loc st lay μ bc bs := by
  unfold pr at h
  split at h
  · split at h
    · rename_i hx
      intro H locs cells slots ls hl hP hz hS hc hs
      obtain ⟨hlt, hset⟩ := hl.set hx
      exact lv_astore hB.1 hB.2.1 hd hl.1 hlt rfl (fun ls2 hl2 => h H locs cells slots ls2 (hset ls2 hl2) hP hz hS hc hs)
    · exact h.elim
  · exact h.elim
theorem s_astore_n (hB : Bd G d M MC MS p R s m args meth c) {f : Fin 4} (hd : decode M.cd pc = .ok (.astore_n f, 1)) (h : pr st (fun x r => match lset loc (f : Nat) (.ref x) with | some l => VZ G M MC MS p e R s m args below meth c Qs (pc + 1) l r lay μ bc bs | none => False)) : VZ G M MC MS p e R s m args below meth c Qs pc loc st lay μ bc bs := by
  unfold pr at h
  split at h
  · split at h
    · rename_i hx
      intro H locs cells slots ls hl hP hz hS hc hs
      obtain ⟨hlt, hset⟩ := hl.set hx
      exact lv_astore_n hB.1 hB.2.1 hd rfl hl.1 hlt rfl (fun ls2 hl2 => h H locs cells slots ls2 (hset ls2 hl2) hP hz hS hc hs)
    · exact h.elim
  · exact h.elim
theorem s_iinc (hB : Bd G d M MC MS p R s m args meth c) {n : Nat} {z : Int} (hd : decode M.cd pc = .ok (.iinc n z, 3)) (h : match lget loc n with | some (.int x) => (match lset loc n (.int (x + Int32.ofInt z)) with | some l => VZ G M MC MS p e R s m args below meth c Qs (pc + 3) l st lay μ bc bs | none => False) | _ => False) : VZ G M MC MS p e R s m args below meth c Qs pc loc st lay μ bc bs := by
  split at h
  · rename_i x hx
    split at h
    · rename_i l hx2
      intro H locs cells slots ls hl hP hz hS hc hs
      obtain ⟨hlt, hset⟩ := hl.set hx2
      obtain ⟨kx, hkx⟩ := List.getElem?_of_mem (lvl_mem.mpr ⟨_, lget_at loc n _ hx, rfl⟩ : (n, cv G (.int x)) ∈ lvl G loc)
      exact lv_iinc hB.1 hB.2.1 hd hl.1 hkx rfl hlt rfl (fun ls2 hl2 => h H locs cells slots ls2 (hset ls2 hl2) hP hz hS hc hs)
    · exact h.elim
  · exact h.elim
theorem s_iconst (hB : Bd G d M MC MS p R s m args meth c) {z : Int} (hd : decode M.cd pc = .ok (.iconst z, 1)) (h : VZ G M MC MS p e R s m args below meth c Qs (pc + 1) loc (.int (Int32.ofInt z) :: st) lay μ bc bs) : VZ G M MC MS p e R s m args below meth c Qs pc loc st lay μ bc bs := by
  intro H locs cells slots ls hl hP hz hS hc hs
  exact lv_iconst hB.1 hB.2.1 hd rfl (h H locs cells slots ls hl hP hz hS hc hs)
theorem s_bipush (hB : Bd G d M MC MS p R s m args meth c) {z : Int} (hd : decode M.cd pc = .ok (.bipush z, 2)) (h : VZ G M MC MS p e R s m args below meth c Qs (pc + 2) loc (.int ((Int8.ofInt z).toInt32) :: st) lay μ bc bs) : VZ G M MC MS p e R s m args below meth c Qs pc loc st lay μ bc bs := by
  intro H locs cells slots ls hl hP hz hS hc hs
  exact lv_bipush hB.1 hB.2.1 hd rfl (h H locs cells slots ls hl hP hz hS hc hs)
theorem s_sipush (hB : Bd G d M MC MS p R s m args meth c) {z : Int} (hd : decode M.cd pc = .ok (.sipush z, 3)) (h : VZ G M MC MS p e R s m args below meth c Qs (pc + 3) loc (.int ((Int16.ofInt z).toInt32) :: st) lay μ bc bs) : VZ G M MC MS p e R s m args below meth c Qs pc loc st lay μ bc bs := by
  intro H locs cells slots ls hl hP hz hS hc hs
  exact lv_sipush hB.1 hB.2.1 hd rfl (h H locs cells slots ls hl hP hz hS hc hs)
theorem s_lconst (hB : Bd G d M MC MS p R s m args meth c) {f : Fin 2} (hd : decode M.cd pc = .ok (.lconst f, 1)) (h : VZ G M MC MS p e R s m args below meth c Qs (pc + 1) loc (.long (if f = 0 then 0 else 1) :: st) lay μ bc bs) : VZ G M MC MS p e R s m args below meth c Qs pc loc st lay μ bc bs := by
  intro H locs cells slots ls hl hP hz hS hc hs
  refine lv_lconst hB.1 hB.2.1 hd (v := if f = 0 then 0 else 1) ?_ (h H locs cells slots ls hl hP hz hS hc hs)
  match f with
  | 0 => rfl
  | 1 => rfl
theorem s_ldc (hB : Bd G d M MC MS p R s m args meth c) {n : Nat} (hd : decode M.cd pc = .ok (.ldc n, 2)) (h : match clk (inf M).1 n with | some x => VZ G M MC MS p e R s m args below meth c Qs (pc + 2) loc (.int x :: st) lay μ bc bs | none => False) : VZ G M MC MS p e R s m args below meth c Qs pc loc st lay μ bc bs := by
  split at h
  · rename_i x hx
    unfold clk at hx
    obtain ⟨q, hq, hqe⟩ := Option.map_eq_some_iff.mp hx
    have h1 := List.find?_some hq
    simp only [Bool.and_eq_true, beq_iff_eq] at h1
    have h2 := gat_mem (List.all_eq_true.mp cTab_ok q (List.mem_of_find?_eq_some hq))
    rw [h1.1, h1.2, hqe] at h2
    intro H locs cells slots ls hl hP hz hS hc hs
    exact lv_ldc hB.1 hB.2.1 (own := cn M.1) (by rw [hB.2.2.2.2.2.2.2.2.1]; exact hB.2.2.2.1) (hB.2.2.2.2.1 _ h2) hd (h H locs cells slots ls hl hP hz hS hc hs)
  · exact h.elim
theorem s_ldc_w (hB : Bd G d M MC MS p R s m args meth c) {n : Nat} (hd : decode M.cd pc = .ok (.ldc_w n, 3)) (h : match clk (inf M).1 n with | some x => VZ G M MC MS p e R s m args below meth c Qs (pc + 3) loc (.int x :: st) lay μ bc bs | none => False) : VZ G M MC MS p e R s m args below meth c Qs pc loc st lay μ bc bs := by
  split at h
  · rename_i x hx
    unfold clk at hx
    obtain ⟨q, hq, hqe⟩ := Option.map_eq_some_iff.mp hx
    have h1 := List.find?_some hq
    simp only [Bool.and_eq_true, beq_iff_eq] at h1
    have h2 := gat_mem (List.all_eq_true.mp cTab_ok q (List.mem_of_find?_eq_some hq))
    rw [h1.1, h1.2, hqe] at h2
    intro H locs cells slots ls hl hP hz hS hc hs
    exact lv_ldcw hB.1 hB.2.1 (own := cn M.1) (by rw [hB.2.2.2.2.2.2.2.2.1]; exact hB.2.2.2.1) (hB.2.2.2.2.1 _ h2) hd (h H locs cells slots ls hl hP hz hS hc hs)
  · exact h.elim
theorem s_ldc2 (hB : Bd G d M MC MS p R s m args meth c) {n : Nat} (hd : decode M.cd pc = .ok (.ldc2_w n, 3)) (h : match c2lk (inf M).1 n with | some x => VZ G M MC MS p e R s m args below meth c Qs (pc + 3) loc (.long x :: st) lay μ bc bs | none => False) : VZ G M MC MS p e R s m args below meth c Qs pc loc st lay μ bc bs := by
  split at h
  · rename_i x hx
    unfold c2lk at hx
    obtain ⟨q, hq, hqe⟩ := Option.map_eq_some_iff.mp hx
    have h1 := List.find?_some hq
    simp only [Bool.and_eq_true, beq_iff_eq] at h1
    have h2 := gat_mem (List.all_eq_true.mp c2Tab_ok q (List.mem_of_find?_eq_some hq))
    rw [h1.1, h1.2, hqe] at h2
    intro H locs cells slots ls hl hP hz hS hc hs
    exact lv_ldc2 hB.1 hB.2.1 (own := cn M.1) (by rw [hB.2.2.2.2.2.2.2.2.1]; exact hB.2.2.2.1) (hB.2.2.2.2.1 _ h2) hd (h H locs cells slots ls hl hP hz hS hc hs)
  · exact h.elim
theorem s_dup (hB : Bd G d M MC MS p R s m args meth c) (hd : decode M.cd pc = .ok (.dup, 1)) (h : match st with | v :: r => v.category = 1 ∧ VZ G M MC MS p e R s m args below meth c Qs (pc + 1) loc (v :: v :: r) lay μ bc bs | _ => False) : VZ G M MC MS p e R s m args below meth c Qs pc loc st lay μ bc bs := by
  split at h
  · intro H locs cells slots ls hl hP hz hS hc hs
    exact lv_dup hB.1 hB.2.1 hd (by rw [cv_cat]; exact h.1) (h.2 H locs cells slots ls hl hP hz hS hc hs)
  · exact h.elim
theorem s_pop (hB : Bd G d M MC MS p R s m args meth c) (hd : decode M.cd pc = .ok (.pop, 1)) (h : match st with | v :: r => v.category = 1 ∧ VZ G M MC MS p e R s m args below meth c Qs (pc + 1) loc r lay μ bc bs | _ => False) : VZ G M MC MS p e R s m args below meth c Qs pc loc st lay μ bc bs := by
  split at h
  · intro H locs cells slots ls hl hP hz hS hc hs
    exact lv_pop hB.1 hB.2.1 hd (by rw [cv_cat]; exact h.1) (h.2 H locs cells slots ls hl hP hz hS hc hs)
  · exact h.elim
theorem s_dup2 (hB : Bd G d M MC MS p R s m args meth c) (hd : decode M.cd pc = .ok (.dup2, 1)) (h : match st with | v :: w :: r => v.category = 1 ∧ w.category = 1 ∧ VZ G M MC MS p e R s m args below meth c Qs (pc + 1) loc (v :: w :: v :: w :: r) lay μ bc bs | _ => False) : VZ G M MC MS p e R s m args below meth c Qs pc loc st lay μ bc bs := by
  split at h
  · intro H locs cells slots ls hl hP hz hS hc hs
    exact lv_dup2_11 hB.1 hB.2.1 hd (by rw [cv_cat]; exact h.1) (by rw [cv_cat]; exact h.2.1) (h.2.2 H locs cells slots ls hl hP hz hS hc hs)
  · exact h.elim
theorem s_goto (hB : Bd G d M MC MS p R s m args meth c) {o : Int} (ht : 0 ≤ (pc : Int) + o) (hd : decode M.cd pc = .ok (.goto o, 3)) (h : VZ G M MC MS p e R s m args below meth c Qs ((pc : Int) + o).toNat loc st lay μ bc bs) : VZ G M MC MS p e R s m args below meth c Qs pc loc st lay μ bc bs := by
  intro H locs cells slots ls hl hP hz hS hc hs
  exact lv_goto hB.1 hB.2.1 hd (by omega) (h H locs cells slots ls hl hP hz hS hc hs)
theorem s_icmp (hB : Bd G d M MC MS p R s m args meth c) {cc : ClassFile.Cond} {o : Int} (ht : 0 ≤ (pc : Int) + o) (hd : decode M.cd pc = .ok (.if_icmp cc o, 3)) (h : p2 st (fun x y r => brI cc x y (VZ G M MC MS p e R s m args below meth c Qs ((pc : Int) + o).toNat loc r lay μ bc bs) (VZ G M MC MS p e R s m args below meth c Qs (pc + 3) loc r lay μ bc bs))) : VZ G M MC MS p e R s m args below meth c Qs pc loc st lay μ bc bs := by
  unfold p2 at h
  split at h
  · intro H locs cells slots ls hl hP hz hS hc hs
    cases cc <;> unfold brI at h <;> dsimp only at h
    all_goals first | exact lv_icmp_eq hB.1 hB.2.1 hd (by omega) (fun q => h.1 q H locs cells slots ls hl hP hz hS hc hs) (fun q => h.2 q H locs cells slots ls hl hP hz hS hc hs) | exact lv_icmp_ne hB.1 hB.2.1 hd (by omega) (fun q => h.1 q H locs cells slots ls hl hP hz hS hc hs) (fun q => h.2 q H locs cells slots ls hl hP hz hS hc hs) | exact lv_icmp_lt hB.1 hB.2.1 hd (by omega) (fun q => h.1 q H locs cells slots ls hl hP hz hS hc hs) (fun q => h.2 q H locs cells slots ls hl hP hz hS hc hs) | exact lv_icmp_ge hB.1 hB.2.1 hd (by omega) (fun q => h.1 q H locs cells slots ls hl hP hz hS hc hs) (fun q => h.2 q H locs cells slots ls hl hP hz hS hc hs) | exact lv_icmp_gt hB.1 hB.2.1 hd (by omega) (fun q => h.1 q H locs cells slots ls hl hP hz hS hc hs) (fun q => h.2 q H locs cells slots ls hl hP hz hS hc hs) | exact lv_icmp_le hB.1 hB.2.1 hd (by omega) (fun q => h.1 q H locs cells slots ls hl hP hz hS hc hs) (fun q => h.2 q H locs cells slots ls hl hP hz hS hc hs)
  · exact h.elim
theorem s_if (hB : Bd G d M MC MS p R s m args meth c) {cc : ClassFile.Cond} {o : Int} (ht : 0 ≤ (pc : Int) + o) (hd : decode M.cd pc = .ok (.ifCond cc o, 3)) (h : p1 st (fun x r => brI cc x 0 (VZ G M MC MS p e R s m args below meth c Qs ((pc : Int) + o).toNat loc r lay μ bc bs) (VZ G M MC MS p e R s m args below meth c Qs (pc + 3) loc r lay μ bc bs))) : VZ G M MC MS p e R s m args below meth c Qs pc loc st lay μ bc bs := by
  unfold p1 at h
  split at h
  · intro H locs cells slots ls hl hP hz hS hc hs
    cases cc <;> unfold brI at h <;> dsimp only at h
    all_goals first | exact lv_if_eq hB.1 hB.2.1 hd (by omega) (fun q => h.1 q H locs cells slots ls hl hP hz hS hc hs) (fun q => h.2 q H locs cells slots ls hl hP hz hS hc hs) | exact lv_if_ne hB.1 hB.2.1 hd (by omega) (fun q => h.1 q H locs cells slots ls hl hP hz hS hc hs) (fun q => h.2 q H locs cells slots ls hl hP hz hS hc hs) | exact lv_if_lt hB.1 hB.2.1 hd (by omega) (fun q => h.1 q H locs cells slots ls hl hP hz hS hc hs) (fun q => h.2 q H locs cells slots ls hl hP hz hS hc hs) | exact lv_if_ge hB.1 hB.2.1 hd (by omega) (fun q => h.1 q H locs cells slots ls hl hP hz hS hc hs) (fun q => h.2 q H locs cells slots ls hl hP hz hS hc hs) | exact lv_if_gt hB.1 hB.2.1 hd (by omega) (fun q => h.1 q H locs cells slots ls hl hP hz hS hc hs) (fun q => h.2 q H locs cells slots ls hl hP hz hS hc hs) | exact lv_if_le hB.1 hB.2.1 hd (by omega) (fun q => h.1 q H locs cells slots ls hl hP hz hS hc hs) (fun q => h.2 q H locs cells slots ls hl hP hz hS hc hs)
  · exact h.elim
theorem s_ifnull (hB : Bd G d M MC MS p R s m args meth c) {o : Int} (ht : 0 ≤ (pc : Int) + o) (hd : decode M.cd pc = .ok (.ifnull o, 3)) (h : match st with | .ref _ :: r => VZ G M MC MS p e R s m args below meth c Qs (pc + 3) loc r lay μ bc bs | .null :: r => VZ G M MC MS p e R s m args below meth c Qs ((pc : Int) + o).toNat loc r lay μ bc bs | _ => False) : VZ G M MC MS p e R s m args below meth c Qs pc loc st lay μ bc bs := by
  split at h
  · intro H locs cells slots ls hl hP hz hS hc hs
    exact lv_ifnull hB.1 hB.2.1 hd (h H locs cells slots ls hl hP hz hS hc hs)
  · intro H locs cells slots ls hl hP hz hS hc hs
    exact lv_ifnullN hB.1 hB.2.1 hd (by omega) (h H locs cells slots ls hl hP hz hS hc hs)
  · exact h.elim
theorem s_ifnonnull (hB : Bd G d M MC MS p R s m args meth c) {o : Int} (ht : 0 ≤ (pc : Int) + o) (hd : decode M.cd pc = .ok (.ifnonnull o, 3)) (h : match st with | .ref _ :: r => VZ G M MC MS p e R s m args below meth c Qs ((pc : Int) + o).toNat loc r lay μ bc bs | .null :: r => VZ G M MC MS p e R s m args below meth c Qs (pc + 3) loc r lay μ bc bs | _ => False) : VZ G M MC MS p e R s m args below meth c Qs pc loc st lay μ bc bs := by
  split at h
  · intro H locs cells slots ls hl hP hz hS hc hs
    exact lv_ifnonnull hB.1 hB.2.1 hd (by omega) (h H locs cells slots ls hl hP hz hS hc hs)
  · intro H locs cells slots ls hl hP hz hS hc hs
    exact lv_ifnonnullN hB.1 hB.2.1 hd (h H locs cells slots ls hl hP hz hS hc hs)
  · exact h.elim
end SND
end
section
theorem fTab_nf : fTab.all (fun q => q.2.2.2.2.1 == 2 || !(TT q.2.2.1 q.2.2.2.1).2.2.2) = true := by decide +kernel
theorem fTab_no : fTab.all (fun q => q.2.2.2.2.2.1 == 0 || q.1 != q.2.2.1) = true := by decide +kernel
def isRT : FieldType → Bool
  | .object _ => true
  | .array _ => true
  | _ => false
theorem fTab_rf : fTab.all (fun q => q.2.2.2.2.1 != 2 || isRT (tyT q.2.2.1 q.2.2.2.1)) = true := by decide +kernel
theorem fl_spec {o n ci kk kd : Nat} (h : fl o n = some (ci, kk, kd)) : ∃ nst p, (o, n, ci, kk, kd, nst, p) ∈ fTab := by
  unfold fl at h
  obtain ⟨q, hq, hqe⟩ := Option.map_eq_some_iff.mp h
  have h1 := List.find?_some hq
  simp only [Bool.and_eq_true, beq_iff_eq] at h1
  have h2 := List.mem_of_find?_eq_some hq
  obtain ⟨a, b, c, e, f, g, i⟩ := q
  simp only [Prod.mk.injEq] at hqe
  obtain ⟨rfl, rfl, rfl⟩ := hqe
  obtain ⟨rfl, rfl⟩ := h1
  exact ⟨g, i, h2⟩
theorem fl_facts {o n ci kk kd nst p : Nat} (h : (o, n, ci, kk, kd, nst, p) ∈ fTab) : (nst = 0 → Cond.fieldLink (cn o) n (cn ci) (TT ci kk).2.1 (TT ci kk).2.2.1 ∈ gtbl) ∧ (nst ≠ 0 → Cond.fieldLinkNest (cn o) n (cn ci) (TT ci kk).2.1 (TT ci kk).2.2.1 "BellRibbons" ∈ nestW) ∧ kk < NF ci ∧ ci < 12 ∧ (TT ci kk).1 = cn ci ∧ (kdT ci)[kk]? = some kd ∧ kd = (match tyT ci kk with | .int => 0 | .long => 1 | .boolean => 3 | _ => 2) := by
  have h1 := List.all_eq_true.mp fTab_ok _ h
  unfold flkB at h1
  simp only [Bool.and_eq_true, decide_eq_true_eq] at h1
  obtain ⟨⟨⟨⟨⟨⟨⟨g1, g2⟩, g3⟩, g4⟩, g5⟩, g6⟩, g7⟩, g8⟩ := h1
  refine ⟨fun e => ?_, fun e => ?_, g3, g4, g5, g6, g8⟩
  · rw [if_pos e] at g1
    exact gat_mem g1
  · rw [if_neg e] at g1
    exact List.mem_of_getElem? (of_decide_eq_true g1)
theorem fvs_get {G : Gx} {ci : Nat} {rs : List (Option Nat)} {a : Nat} {μ : Mem} {k kd : Nat} (h : (kdT ci)[k]? = some kd) : (fvs G ci rs a μ)[k]? = some (fv G rs a μ kd k) := by
  unfold fvs
  rw [List.getElem?_map, List.getElem?_zipIdx, h]
  simp
theorem fvs_len {G : Gx} {ci : Nat} {rs : List (Option Nat)} {a : Nat} {μ : Mem} : (fvs G ci rs a μ).length = (kdT ci).length := by simp [fvs]
theorem fvs_set {G : Gx} {ci : Nat} {rs rs' : List (Option Nat)} {a : Nat} {μ μ' : Mem} {k kd : Nat} {v : Value} (h : (kdT ci)[k]? = some kd) (hv : fv G rs' a μ' kd k = v) (ho : ∀ j kj, j ≠ k → fv G rs' a μ' kj j = fv G rs a μ kj j) : (fvs G ci rs a μ).set k v = fvs G ci rs' a μ' := by
  have hl : k < (kdT ci).length := (List.getElem?_eq_some_iff.mp h).1
  apply List.ext_getElem?
  intro j
  by_cases e : j = k
  · subst e
    rw [List.getElem?_set_self (by rw [fvs_len]; exact hl), fvs_get h, hv]
  · rw [List.getElem?_set_ne (Ne.symm e)]
    cases e2 : (kdT ci)[j]? with
    | none =>
      have h1 := List.getElem?_eq_none_iff.mp e2
      rw [List.getElem?_eq_none (by rw [fvs_len]; exact h1), List.getElem?_eq_none (by rw [fvs_len]; exact h1)]
    | some kj => rw [fvs_get e2, fvs_get e2, ho j kj e]
theorem ent_obj {G : Gx} {sh : Sh} {a ci : Nat} {μ : Mem} (h : sh.1 = ci + 6) : ent G sh a μ = .inr (ci, fvs G ci sh.2.2 a μ) := by
  obtain ⟨k, n, rs⟩ := sh
  cases h
  rfl
theorem up_P {G : Gx} {lay lay' : List Sh} {μ μ' : Mem} {H H1 : Heap} {a : Nat} (hP : va_P G.D vwCl (wl G lay μ) H) (hk : ∀ b s, b ≠ a → lay'[b]? = some s → lay[b]? = some s ∧ ent G s b μ' = ent G s b μ) (hn : ∀ s, lay'[a]? = some s → va_at G.D vwCl (G.z + a, ent G s a μ') H1) (oq : ∀ q : Nat, q ≠ G.z + a → H1[q]? = H[q]?) : va_P G.D vwCl (wl G lay' μ') H1 := by
  intro k q hq
  obtain ⟨s, hs, rfl⟩ := wl_inv hq
  by_cases e : k = a
  · subst e
    exact hn s hs
  · obtain ⟨h1, h2⟩ := hk k s e hs
    rw [h2]
    exact (hP k _ (wl_get h1)).kept (oq _ (by omega))
theorem set_i (cA : ClassId) (n : Nat) (f : Nat → Int32) (i : Nat) (x : Int32) : (vp_cell cA (n, .inl f)).setSlot i (.int x) = vp_cell cA (n, .inl (upd f i x)) := by
  rw [vp_cell_i, vp_cell_i, arrV_store]
  refine congrArg (arrV cA n) (funext fun q => ?_)
  by_cases hq : q = i
  · subst hq
    simp [updV, upd]
  · simp [updV, upd, hq]
theorem set_l (cA : ClassId) (n : Nat) (f : Nat → Int64) (i : Nat) (x : Int64) : (vp_cell cA (n, .inr (.inl f))).setSlot i (.long x) = vp_cell cA (n, .inr (.inl (vp_updL f i x))) := by
  show (arrV cA n (fun j => .long (f j))).setSlot i (.long x) = arrV cA n (fun j => .long (vp_updL f i x j))
  rw [arrV_store]
  refine congrArg (arrV cA n) (funext fun q => ?_)
  by_cases hq : q = i
  · subst hq
    simp [updV, vp_updL]
  · simp [updV, vp_updL, hq]
theorem nar_z (x : Int32) : narrow .boolean (.int x) = .int (vp_nar .boolean x) := rfl
theorem nar_b (x : Int32) : narrow .byte (.int x) = .int (vp_nar .byte x) := rfl
section SND2
variable {G : Gx} {d : Nat} {M : MI} {MC MS : Nat} {p : Program} {e : Env} {R : Room} {s : State} {m : MethodId} {args : Array Value} {below : List Frame} {meth : Method} {c : Code} {Qs : State → Prop} {Qa : Option Value → List Sh → Mem → Prop} {pc : Nat} {loc : XV} {st : List Value} {lay : List Sh} {μ : Mem} {bc bs : Nat}
theorem Bd.own (hB : Bd G d M MC MS p R s m args meth c) : s.vm.findClass (cn M.1) = some m.cls := by
  rw [hB.2.2.2.2.2.2.2.2.1]
  exact hB.2.2.2.1
theorem Bd.ts (hB : Bd G d M MC MS p R s m args meth c) : ∀ w ∈ gtbl, w.before args s = true := hB.2.2.2.2.1
theorem Bd.K (hB : Bd G d M MC MS p R s m args meth c) : va_K G.D vwCl (tys G) s := hB.2.2.2.2.2.1
theorem Bd.xw (hB : Bd G d M MC MS p R s m args meth c) : XW s := hB.2.2.2.2.2.2.1
theorem s_getfield (hB : Bd G d M MC MS p R s m args meth c) {n : Nat} (hd : decode M.cd pc = .ok (.getfield n, 3)) (h : match fl (inf M).1 n with
    | some (ci, kk, kd) => pr st (fun a r => match lay[a]? with
      | some sh => sh.1 = ci + 6 ∧ gfld kd sh a μ kk (fun v => VZ G M MC MS p e R s m args below meth c Qs (pc + 3) loc (v :: r) lay μ bc bs)
      | none => False)
    | none => False) : VZ G M MC MS p e R s m args below meth c Qs pc loc st lay μ bc bs := by
  split at h
  · rename_i ci kk kd hf
    unfold pr at h
    split at h
    · rename_i a r
      split at h
      · rename_i sh hsh
        obtain ⟨nst, pp, hm⟩ := fl_spec hf
        obtain ⟨f1, f2, f3, f4, f5, f6, f7⟩ := fl_facts hm
        intro H locs cells slots ls hl hP hz hS hc hs
        have he := wl_get (G := G) (μ := μ) hsh
        rw [ent_obj h.1] at he
        have hv := fvs_get (G := G) (rs := sh.2.2) (a := a) (μ := μ) f6
        have go : ∀ v, fv G sh.2.2 a μ kd kk = cv G v → W p G.1 e R s m args below meth c H locs cells slots Qs (F0 m (pc + 3) ls ((v :: r).map (cv G))) → W p G.1 e R s m args below meth c H locs cells slots Qs (F0 m pc ls ((Value.ref a :: r).map (cv G))) := by
          intro v e1 k
          by_cases hn0 : nst = 0
          · exact va_get hB.1 hB.2.1 hB.ts (inTT ci f4) hB.own hB.K hP a he (vwCl_at ci f4) kk f3 (hB.ts _ (f1 hn0)) (fun x hx => by rw [f5] at hx; exact hx) (v := cv G v) (by rw [hv, e1]) hd k
          · exact va_getN hB.1 hB.2.1 hB.ts (inTT ci f4) hB.own hB.K hP a he (vwCl_at ci f4) kk f3 (va_Nw.use rfl (hB.xw.1 _ (f2 hn0))) (fun x hx => by rw [f5] at hx; exact hx) (v := cv G v) (by rw [hv, e1]) hd k
        have h2 := h.2
        unfold gfld at h2
        split at h2
        · exact go _ rfl (h2 H locs cells slots ls hl hP hz hS hc hs)
        · refine go _ ?_ (h2 H locs cells slots ls hl hP hz hS hc hs)
          unfold fv
          cases hr : sh.2.2.getD kk none with
          | none => rfl
          | some b => rfl
        · rename_i hk1 hk2
          refine go _ ?_ (h2 H locs cells slots ls hl hP hz hS hc hs)
          unfold fv
          split
          · exact absurd rfl hk1
          · exact absurd rfl hk2
          · rfl
      · exact h.elim
    · exact h.elim
  · exact h.elim
theorem s_putfield (hB : Bd G d M MC MS p R s m args meth c) {n : Nat} (hd : decode M.cd pc = .ok (.putfield n, 3)) (hin2 : (inf M).2.2.2.1 = 2 → meth.name = "<init>") (h : match fl (inf M).1 n with
    | some (ci, kk, kd) => pfld kd st (fun v a r => match lay[a]? with
      | some sh => sh.1 = ci + 6 ∧ (kd = 2 → (inf M).2.2.2.1 = 2 ∧ (inf M).1 = ci ∨ (TT ci kk).2.2.2 = false) ∧ sfld lay μ sh a kk v (fun lay' μ' => VZ G M MC MS p e R s m args below meth c Qs (pc + 3) loc r lay' μ' bc bs)
      | none => False)
    | none => False) : VZ G M MC MS p e R s m args below meth c Qs pc loc st lay μ bc bs := by
  split at h
  · rename_i ci kk kd hf
    obtain ⟨nst, pp, hm⟩ := fl_spec hf
    obtain ⟨f1, f2, f3, f4, f5, f6, f7⟩ := fl_facts hm
    have f8 := List.all_eq_true.mp fTab_nf _ hm
    have f9 := List.all_eq_true.mp fTab_no _ hm
    have f10 := List.all_eq_true.mp fTab_rf _ hm
    simp only [Bool.or_eq_true, beq_iff_eq, bne_iff_ne, ne_eq, Bool.not_eq_true'] at f8 f9 f10
    have go : ∀ (v : Value) (a : Nat) (r : List Value) (sh : Sh) (lay' : List Sh) (μ' : Mem), lay[a]? = some sh → sh.1 = ci + 6 → (kd = 2 → (inf M).2.2.2.1 = 2 ∧ (inf M).1 = ci ∨ (TT ci kk).2.2.2 = false) → narrow (tyT ci kk) (cv G v) = cv G v → fits (tyT ci kk) (cv G v) = true →
        lay'.length = lay.length → (∀ b s, b ≠ a → lay'[b]? = some s → lay[b]? = some s ∧ ent G s b μ' = ent G s b μ) → (∀ s, lay'[a]? = some s → ent G s a μ' = .inr (ci, (fvs G ci sh.2.2 a μ).set kk (cv G v))) →
        VZ G M MC MS p e R s m args below meth c Qs (pc + 3) loc r lay' μ' bc bs → VZ G M MC MS p e R s m args below meth c Qs pc loc (v :: .ref a :: r) lay μ bc bs := by
      intro v a r sh lay' μ' hsh hsc hfin hnw hft hln hkp hnw2 k H locs cells slots ls hl hP hz hS hc hs
      have he := wl_get (G := G) (μ := μ) hsh
      rw [ent_obj hsc] at he
      have hct := vwCl_at ci f4
      have hap := va_apart (own := cn M.1) hB.ts (inTT ci f4) (tyT ci) (tyTT ci f4) (nmTT ci f4) hB.K hct
      obtain ⟨q, h1, cell, q1, q2, q3, q4⟩ := hP a _ he
      have hr : q = (cn ci, TT ci, NF ci) := Option.some.inj (h1.symm.trans hct)
      subst hr
      obtain ⟨hSl, hfc, kC, hkC, hkind⟩ := hB.K.1 ci _ hct
      obtain ⟨cf, kf, fi, f, hi, hsl⟩ := hSl kk f3
      have hlay := hB.ts _ (inTT ci f4 _ (u_in_lay f3))
      have hst := (u_facts hfc hkC (u_lays hB.ts (inTT ci f4) f3) hi).1
      have hlk : kk < (fvs G ci sh.2.2 a μ).length := by rw [fvs_len]; exact (List.getElem?_eq_some_iff.mp f6).1
      have hpd := tyTT ci f4 kk f3
      have fin : ∀ H1 : Heap, H1[G.z + a]? = some (cell.setSlot f.slot (cv G v)) → H1.size = H.size → (∀ q : Nat, q ≠ G.z + a → H1[q]? = H[q]?) → W p G.1 e R s m args below meth c H1 (locs ++ [⟨G.z + a, f.slot⟩]) cells slots Qs (F0 m (pc + 3) ls (r.map (cv G))) := by
        intro H1 e1 e2 e3
        rw [hsl] at e1 ⊢
        refine k H1 _ cells slots ls hl (up_P hP hkp (fun s hs => ?_) e3) (by rw [e2, hz, hln]) (hS.put e2 e3 (Nat.le_add_right _ _)) hc hs
        rw [hnw2 s hs]
        exact ⟨_, hct, t_OB.to (V := updV (vp_V (fvs G ci sh.2.2 a μ)) kk (cv G v)) ⟨_, e1, q2, q3, t_set q4 hap f3 (cv G v)⟩ (fun j _ => vp_updV_set hlk (cv G v) j)⟩
      have hsame : ∀ x, s.fieldFound? (TT ci kk).1 (TT ci kk).2.1 (TT ci kk).2.2.1 = some x → s.fieldFound? (cn ci) (TT ci kk).2.1 (TT ci kk).2.2.1 = some x := fun x hx => by rw [f5] at hx; exact hx
      unfold u_lay at hlay
      by_cases hff : (TT ci kk).2.2.2 = true
      · have hkd2 : kd = 2 := by
          rcases f8 with q | q
          · exact q
          · rw [hff] at q; cases q
        rcases hfin hkd2 with ⟨g1, g2⟩ | g
        · have hn0 : nst = 0 := by
            rcases f9 with q | q
            · exact q
            · exact absurd g2 q
          rw [if_pos hff] at hlay
          have hcf : m.cls = cf := by
            obtain ⟨_, _, c', _, _, _, -, -, hf', -, -, -, hown2, -⟩ := Cond.laysFinal_spec hlay
            have e1 : c' = cf := by have := hi.symm.trans hf'; simp at this; exact this.1.symm
            rw [f5] at hown2
            have g3 : M.1 = ci := g2
            have how := hB.own
            rw [g3] at how
            rw [← e1]; exact Option.some.inj (how.symm.trans hown2)
          have h6 := u_fits hfc hkC hkind (Or.inr hlay) hi hpd hnw hft
          exact W.putFinK hB.1 hB.2.1 hB.own (hB.ts _ (f1 hn0)) (hsame _ hi) hst hcf (hin2 g1) (by rw [q2]; exact h6) q1 q3 (by rw [hsl]; exact k2_hasslot (q4 kk f3)) rfl rfl hd fin
        · rw [hff] at g; cases g
      · rw [if_neg hff] at hlay
        have h6 := u_store hfc hkC hkind hlay hi hpd hnw hft
        by_cases hn0 : nst = 0
        · exact W.putK hB.1 hB.2.1 (f := f) ⟨hB.own, hB.ts _ (f1 hn0), ⟨_, _, _, hsame _ hi⟩, hst⟩ (by rw [q2]; exact h6) q1 q3 (by rw [hsl]; exact k2_hasslot (q4 kk f3)) rfl rfl hd fin
        · exact va_WputK hB.1 hB.2.1 (f := f) hB.own (va_Nw.use rfl (hB.xw.1 _ (f2 hn0))) (hsame _ hi) hst (by rw [q2]; exact h6) q1 q3 (by rw [hsl]; exact k2_hasslot (q4 kk f3)) rfl rfl hd fin
    unfold pfld at h
    split at h
    · rename_i x a r
      obtain ⟨h0, h⟩ := h
      split at h
      · rename_i sh hsh
        obtain ⟨h1, h2, h3⟩ := h
        unfold sfld at h3
        refine go _ a r sh _ _ hsh h1 h2 ?_ ?_ rfl (fun b s hb hs => ⟨hs, si_ent b s hb⟩) (fun s hs => ?_) h3
        · rcases h0 with h0 | ⟨h0, h5⟩
          · rw [h0] at f7
            cases hty : tyT ci kk <;> rw [hty] at f7 <;> first | rfl | (simp at f7)
          · rw [h0] at f7
            cases hty : tyT ci kk <;> rw [hty] at f7 <;> first | (simp at f7; done) | skip
            rcases h5 with rfl | rfl <;> rfl
        · rcases h0 with h0 | ⟨h0, h5⟩
          · rw [h0] at f7
            cases hty : tyT ci kk <;> rw [hty] at f7 <;> first | rfl | (simp at f7)
          · rw [h0] at f7
            cases hty : tyT ci kk <;> rw [hty] at f7 <;> first | (simp at f7; done) | skip
            rcases h5 with rfl | rfl <;> rfl
        · rw [hsh] at hs
          cases hs
          rw [ent_obj h1, fvs_set f6 (rs' := sh.2.2) (μ' := si μ a kk x)]
          · rcases h0 with h0 | ⟨h0, -⟩ <;> subst h0 <;> simp [fv, si, upd, cv]
          · intro j kj hj
            unfold fv si
            split <;> simp [upd, hj]
      · exact h.elim
    · rename_i x a r
      obtain ⟨h0, h⟩ := h
      split at h
      · rename_i sh hsh
        obtain ⟨h1, h2, h3⟩ := h
        unfold sfld at h3
        subst h0
        refine go _ a r sh _ _ hsh h1 h2 ?_ ?_ rfl (fun b s hb hs => ⟨hs, sl_ent b s hb⟩) (fun s hs => ?_) h3
        · cases hty : tyT ci kk <;> rw [hty] at f7 <;> first | rfl | (simp at f7)
        · cases hty : tyT ci kk <;> rw [hty] at f7 <;> first | rfl | (simp at f7)
        · rw [hsh] at hs
          cases hs
          rw [ent_obj h1, fvs_set f6 (rs' := sh.2.2) (μ' := sl μ a kk x)]
          · simp [fv, sl, vp_updL, cv]
          · intro j kj hj
            unfold fv sl
            split <;> simp [vp_updL, hj]
      · exact h.elim
    · rename_i x a r
      obtain ⟨h0, h⟩ := h
      split at h
      · rename_i sh hsh
        obtain ⟨h1, h2, h3⟩ := h
        unfold sfld at h3
        subst h0
        have hal : a < lay.length := (List.getElem?_eq_some_iff.mp hsh).1
        have hrt : isRT (tyT ci kk) = true := by
          rcases f10 with q | q
          · exact absurd rfl q
          · exact q
        refine go _ a r sh _ _ hsh h1 h2 ?_ ?_ (List.length_set ..) (fun b s hb hs => ⟨by rw [List.getElem?_set_ne (Ne.symm hb)] at hs; exact hs, rfl⟩) (fun s hs => ?_) h3.2
        · cases hty : tyT ci kk <;> rw [hty] at hrt <;> first | rfl | cases hrt
        · cases hty : tyT ci kk <;> rw [hty] at hrt <;> first | rfl | cases hrt
        · rw [List.getElem?_set_self hal] at hs
          cases hs
          rw [ent_obj (by exact h1), fvs_set f6 (rs' := sh.2.2.set kk (some x)) (μ' := μ)]
          · simp [fv, cv, va_rf, List.getD_eq_getElem?_getD, List.getElem?_set_self h3.1]
          · intro j kj hj
            unfold fv
            split <;> simp [List.getD_eq_getElem?_getD, List.getElem?_set_ne (Ne.symm hj)]
      · exact h.elim
    · exact h.elim
  · exact h.elim
end SND2
end
section
section SND3
variable {G : Gx} {d : Nat} {M : MI} {MC MS : Nat} {p : Program} {e : Env} {R : Room} {s : State} {m : MethodId} {args : Array Value} {below : List Frame} {meth : Method} {c : Code} {Qs : State → Prop} {Qa : Option Value → List Sh → Mem → Prop} {pc : Nat} {loc : XV} {st : List Value} {lay : List Sh} {μ : Mem} {bc bs : Nat}
theorem ent_0 {sh : Sh} {a : Nat} (h : sh.1 = 0) : ent G sh a μ = .inl (G.T 0, sh.2.1, .inl (μ.1 a)) := by
  obtain ⟨k, n, rs⟩ := sh; cases h; rfl
theorem ent_1 {sh : Sh} {a : Nat} (h : sh.1 = 1) : ent G sh a μ = .inl (G.T 1, sh.2.1, .inl (μ.1 a)) := by
  obtain ⟨k, n, rs⟩ := sh; cases h; rfl
theorem ent_2 {sh : Sh} {a : Nat} (h : sh.1 = 2) : ent G sh a μ = .inl (G.T 2, sh.2.1, .inl (μ.1 a)) := by
  obtain ⟨k, n, rs⟩ := sh; cases h; rfl
theorem ent_3 {sh : Sh} {a : Nat} (h : sh.1 = 3) : ent G sh a μ = .inl (G.T 3, sh.2.1, .inr (.inl (μ.2 a))) := by
  obtain ⟨k, n, rs⟩ := sh; cases h; rfl
theorem ent_4 {sh : Sh} {a : Nat} (h : sh.1 = 4) : ent G sh a μ = .inl (G.T 4, sh.2.1, .inr (.inr (.inr (.inr (grd G 1 sh.2.2))))) := by
  obtain ⟨k, n, rs⟩ := sh; cases h; rfl
theorem ent_5 {sh : Sh} {a : Nat} (h : sh.1 = 5) : ent G sh a μ = .inl (G.T 5, sh.2.1, .inr (.inr (.inr (.inr (grd G 5 sh.2.2))))) := by
  obtain ⟨k, n, rs⟩ := sh; cases h; rfl
theorem si_at {a k : Nat} {x : Int32} : (si μ a k x).1 a = upd (μ.1 a) k x := by simp [si]
theorem sl_at {a k : Nat} {x : Int64} : (sl μ a k x).2 a = vp_updL (μ.2 a) k x := by simp [sl]
theorem s_iaload (hB : Bd G d M MC MS p R s m args meth c) (hd : decode M.cd pc = .ok (.iaload, 1)) (h : pa st (fun i a r => match lay[a]? with
      | some sh => sh.1 = 0 ∧ vp_in i sh.2.1 ∧ VZ G M MC MS p e R s m args below meth c Qs (pc + 1) loc (.int (gi μ a i.toNatClampNeg) :: r) lay μ bc bs
      | none => False) (fun i r => M.1 = 99 ∧ vp_in i G.sL ∧ VZ G M MC MS p e R s m args below meth c Qs (pc + 1) loc (.int (G.xs i.toNatClampNeg) :: r) lay μ bc bs)) : VZ G M MC MS p e R s m args below meth c Qs pc loc st lay μ bc bs := by
  unfold pa at h
  split at h
  · split at h
    · rename_i sh hsh
      intro H locs cells slots ls hl hP hz hS hc hs
      have he := wl_get (G := G) (μ := μ) hsh
      rw [ent_0 h.1] at he
      exact va_iald hB.1 hB.2.1 hB.K hP _ 0 he rfl h.2.1 hd (h.2.2 H locs cells slots ls hl hP hz hS hc hs)
    · exact h.elim
  · obtain ⟨h1, h2, h3⟩ := h
    obtain ⟨g1, g2⟩ := hB.2.2.2.2.2.2.2.2.2.2.2.2.2.2 h1
    intro H locs cells slots ls hl hP hz hS hc hs
    exact va_sld hB.1 hB.2.1 g1 (Nat.lt_of_lt_of_le g2 hB.2.2.2.2.2.2.2.2.2.1) (Nat.not_le.mpr g2) hS h2 hd (h3 H locs cells slots ls hl hP hz hS hc hs)
  · exact h.elim
theorem s_baload (hB : Bd G d M MC MS p R s m args meth c) (hd : decode M.cd pc = .ok (.baload, 1)) (h : pa st (fun i a r => match lay[a]? with
      | some sh => (sh.1 = 1 ∨ sh.1 = 2) ∧ vp_in i sh.2.1 ∧ VZ G M MC MS p e R s m args below meth c Qs (pc + 1) loc (.int (gi μ a i.toNatClampNeg) :: r) lay μ bc bs
      | none => False) (fun _ _ => False)) : VZ G M MC MS p e R s m args below meth c Qs pc loc st lay μ bc bs := by
  unfold pa at h
  split at h
  · split at h
    · rename_i sh hsh
      intro H locs cells slots ls hl hP hz hS hc hs
      have he := wl_get (G := G) (μ := μ) hsh
      rcases h.1 with h1 | h1
      · rw [ent_1 h1] at he
        exact va_zald hB.1 hB.2.1 hB.K hP _ 1 he rfl h.2.1 hd (h.2.2 H locs cells slots ls hl hP hz hS hc hs)
      · rw [ent_2 h1] at he
        exact va_bald hB.1 hB.2.1 hB.K hP _ 2 he rfl h.2.1 hd (h.2.2 H locs cells slots ls hl hP hz hS hc hs)
    · exact h.elim
  · exact h.elim
  · exact h.elim
theorem s_laload (hB : Bd G d M MC MS p R s m args meth c) (hd : decode M.cd pc = .ok (.laload, 1)) (h : pa st (fun i a r => match lay[a]? with
      | some sh => sh.1 = 3 ∧ vp_in i sh.2.1 ∧ VZ G M MC MS p e R s m args below meth c Qs (pc + 1) loc (.long (gl μ a i.toNatClampNeg) :: r) lay μ bc bs
      | none => False) (fun _ _ => False)) : VZ G M MC MS p e R s m args below meth c Qs pc loc st lay μ bc bs := by
  unfold pa at h
  split at h
  · split at h
    · rename_i sh hsh
      intro H locs cells slots ls hl hP hz hS hc hs
      have he := wl_get (G := G) (μ := μ) hsh
      rw [ent_3 h.1] at he
      exact va_lald hB.1 hB.2.1 hB.K hP _ 3 he rfl h.2.1 hd (h.2.2 H locs cells slots ls hl hP hz hS hc hs)
    · exact h.elim
  · exact h.elim
  · exact h.elim
theorem grd_at {w b k : Nat} {rs : List (Option Nat)} {i : Nat} (h : i < k) : grd G w (some b :: some k :: rs) i = some (G.z + (b + w * i)) := by
  unfold grd
  exact if_pos h
theorem s_aaload (hB : Bd G d M MC MS p R s m args meth c) (hd : decode M.cd pc = .ok (.aaload, 1)) (h : pa st (fun i a r => match lay[a]? with
      | some sh => vp_in i sh.2.1 ∧ (match sh.2.2 with
        | some b :: some k :: _ => i.toNatClampNeg < k ∧ (sh.1 = 4 ∧ VZ G M MC MS p e R s m args below meth c Qs (pc + 1) loc (.ref (b + 1 * i.toNatClampNeg) :: r) lay μ bc bs ∨ sh.1 = 5 ∧ VZ G M MC MS p e R s m args below meth c Qs (pc + 1) loc (.ref (b + 5 * i.toNatClampNeg) :: r) lay μ bc bs)
        | _ => False)
      | none => False) (fun _ _ => False)) : VZ G M MC MS p e R s m args below meth c Qs pc loc st lay μ bc bs := by
  unfold pa at h
  split at h
  · rename_i i a r
    split at h
    · rename_i sh hsh
      intro H locs cells slots ls hl hP hz hS hc hs
      have he := wl_get (G := G) (μ := μ) hsh
      obtain ⟨h1, h2⟩ := h
      split at h2
      · rename_i b k rs hrs
        obtain ⟨h2, h3⟩ := h2
        have hlt : i.toNatClampNeg < sh.2.1 := Nat.not_le.mp fun q => h1 (Or.inr q)
        rcases h3 with ⟨h3, h4⟩ | ⟨h3, h4⟩
        · rw [ent_4 h3, hrs] at he
          refine W.aald (v := va_rf (grd G 1 (some b :: some k :: rs) i.toNatClampNeg)) (ty := .array .int) hB.1 hB.2.1 (hP a _ he) ((hB.K.2 4 _ rfl).1 sh.2.1 (fun j => va_rf (grd G 1 (some b :: some k :: rs) j))) rfl (fun q => by cases q) (by show ¬ (i < 0 ∨ (arrV _ _ _).slots.size ≤ _); rw [arrV_size]; exact h1) (by show (arrV _ _ _).slots[_]? = _; rw [arrV_read _ _ hlt]) rfl rfl hd ?_
          rw [grd_at h2]
          exact h4 H locs cells slots ls hl hP hz hS hc hs
        · rw [ent_5 h3, hrs] at he
          refine va_aldq hB.1 hB.2.1 hB.K hP _ 5 he rfl h1 hd ?_
          rw [grd_at h2]
          exact h4 H locs cells slots ls hl hP hz hS hc hs
      · exact h2.elim
    · exact h.elim
  · exact h.elim
  · exact h.elim
theorem s_alen (hB : Bd G d M MC MS p R s m args meth c) (hd : decode M.cd pc = .ok (.arraylength, 1)) (h : match st with
    | .ref a :: r => match lay[a]? with
      | some sh => sh.1 < 6 ∧ VZ G M MC MS p e R s m args below meth c Qs (pc + 1) loc (.int (nI sh.2.1) :: r) lay μ bc bs
      | none => False
    | .float _ :: r => M.1 = 99 ∧ VZ G M MC MS p e R s m args below meth c Qs (pc + 1) loc (.int (nI G.sL) :: r) lay μ bc bs
    | _ => False) : VZ G M MC MS p e R s m args below meth c Qs pc loc st lay μ bc bs := by
  split at h
  · rename_i a r
    split at h
    · rename_i sh hsh
      intro H locs cells slots ls hl hP hz hS hc hs
      have he := wl_get (G := G) (μ := μ) hsh
      obtain ⟨k, n, rs⟩ := sh
      obtain ⟨h1, h2⟩ := h
      match k, h1, he with
      | 0, _, he => exact va_alen hB.1 hB.2.1 hB.K hP a 0 (x := (n, .inl (μ.1 a))) he rfl rfl hd (h2 H locs cells slots ls hl hP hz hS hc hs)
      | 1, _, he => exact va_alen hB.1 hB.2.1 hB.K hP a 1 (x := (n, .inl (μ.1 a))) he rfl rfl hd (h2 H locs cells slots ls hl hP hz hS hc hs)
      | 2, _, he => exact va_alen hB.1 hB.2.1 hB.K hP a 2 (x := (n, .inl (μ.1 a))) he rfl rfl hd (h2 H locs cells slots ls hl hP hz hS hc hs)
      | 3, _, he => exact va_alen hB.1 hB.2.1 hB.K hP a 3 (x := (n, .inr (.inl (μ.2 a)))) he rfl rfl hd (h2 H locs cells slots ls hl hP hz hS hc hs)
      | 4, _, he => exact va_alen hB.1 hB.2.1 hB.K hP a 4 (x := (n, .inr (.inr (.inr (.inr (grd G 1 rs)))))) he rfl rfl hd (h2 H locs cells slots ls hl hP hz hS hc hs)
      | 5, _, he => exact va_alen hB.1 hB.2.1 hB.K hP a 5 (x := (n, .inr (.inr (.inr (.inr (grd G 5 rs)))))) he rfl rfl hd (h2 H locs cells slots ls hl hP hz hS hc hs)
    · exact h.elim
  · obtain ⟨h1, h3⟩ := h
    obtain ⟨g1, g2⟩ := hB.2.2.2.2.2.2.2.2.2.2.2.2.2.2 h1
    intro H locs cells slots ls hl hP hz hS hc hs
    exact va_slen hB.1 hB.2.1 g1 (Nat.lt_of_lt_of_le g2 hB.2.2.2.2.2.2.2.2.2.1) (Nat.not_le.mpr g2) hS hd (h3 H locs cells slots ls hl hP hz hS hc hs)
  · exact h.elim
theorem s_iastore (hB : Bd G d M MC MS p R s m args meth c) (hd : decode M.cd pc = .ok (.iastore, 1)) (h : pst st (fun x i a r => match lay[a]? with
      | some sh => sh.1 = 0 ∧ vp_in i sh.2.1 ∧ VZ G M MC MS p e R s m args below meth c Qs (pc + 1) loc r lay (si μ a i.toNatClampNeg x) bc bs
      | none => False)) : VZ G M MC MS p e R s m args below meth c Qs pc loc st lay μ bc bs := by
  unfold pst at h
  split at h
  · rename_i x i a r
    split at h
    · rename_i sh hsh
      obtain ⟨h1, h2, h3⟩ := h
      intro H locs cells slots ls hl hP hz hS hc hs
      have he := wl_get (G := G) (μ := μ) hsh
      rw [ent_0 h1] at he
      refine W.iast hB.1 hB.2.1 (hP a _ he) ((hB.K.2 0 _ rfl).1 sh.2.1 (fun j => .int (μ.1 a j))) (fun q => by cases q) (by show ¬ (i < 0 ∨ (arrV _ _ _).slots.size ≤ _); rw [arrV_size]; exact h2) rfl rfl hd fun H1 e1 e2 e3 => ?_
      refine h3 H1 _ cells slots ls hl (up_P hP (fun b s hb hs => ⟨hs, si_ent b s hb⟩) (fun s hs => ?_) e3) (by rw [e2, hz]) (hS.put e2 e3 (Nat.le_add_right _ _)) hc hs
      rw [hsh] at hs
      cases hs
      rw [ent_0 h1, si_at]
      show H1[G.z + a]? = some (vp_cell _ _)
      rw [e1]
      exact congrArg some (set_i _ _ _ _ _)
    · exact h.elim
  · exact h.elim
theorem s_bastore (hB : Bd G d M MC MS p R s m args meth c) (hd : decode M.cd pc = .ok (.bastore, 1)) (h : pst st (fun x i a r => match lay[a]? with
      | some sh => vp_in i sh.2.1 ∧ (sh.1 = 1 ∧ VZ G M MC MS p e R s m args below meth c Qs (pc + 1) loc r lay (si μ a i.toNatClampNeg (vp_nar .boolean x)) bc bs ∨ sh.1 = 2 ∧ VZ G M MC MS p e R s m args below meth c Qs (pc + 1) loc r lay (si μ a i.toNatClampNeg (vp_nar .byte x)) bc bs)
      | none => False)) : VZ G M MC MS p e R s m args below meth c Qs pc loc st lay μ bc bs := by
  unfold pst at h
  split at h
  · rename_i x i a r
    split at h
    · rename_i sh hsh
      obtain ⟨h2, h3⟩ := h
      intro H locs cells slots ls hl hP hz hS hc hs
      have he := wl_get (G := G) (μ := μ) hsh
      rcases h3 with ⟨h1, h3⟩ | ⟨h1, h3⟩
      · rw [ent_1 h1] at he
        refine W.zast hB.1 hB.2.1 (hP a _ he) ((hB.K.2 1 _ rfl).1 sh.2.1 (fun j => .int (μ.1 a j))) (fun q => by cases q) (by show ¬ (i < 0 ∨ (arrV _ _ _).slots.size ≤ _); rw [arrV_size]; exact h2) rfl rfl hd fun H1 e1 e2 e3 => ?_
        refine h3 H1 _ cells slots ls hl (up_P hP (fun b s hb hs => ⟨hs, si_ent b s hb⟩) (fun s hs => ?_) e3) (by rw [e2, hz]) (hS.put e2 e3 (Nat.le_add_right _ _)) hc hs
        rw [hsh] at hs
        cases hs
        rw [ent_1 h1, si_at]
        show H1[G.z + a]? = some (vp_cell _ _)
        rw [e1, nar_z]
        exact congrArg some (set_i _ _ _ _ _)
      · rw [ent_2 h1] at he
        refine W.bast hB.1 hB.2.1 (hP a _ he) ((hB.K.2 2 _ rfl).1 sh.2.1 (fun j => .int (μ.1 a j))) (fun q => by cases q) (by show ¬ (i < 0 ∨ (arrV _ _ _).slots.size ≤ _); rw [arrV_size]; exact h2) rfl rfl hd fun H1 e1 e2 e3 => ?_
        refine h3 H1 _ cells slots ls hl (up_P hP (fun b s hb hs => ⟨hs, si_ent b s hb⟩) (fun s hs => ?_) e3) (by rw [e2, hz]) (hS.put e2 e3 (Nat.le_add_right _ _)) hc hs
        rw [hsh] at hs
        cases hs
        rw [ent_2 h1, si_at]
        show H1[G.z + a]? = some (vp_cell _ _)
        rw [e1, nar_b]
        exact congrArg some (set_i _ _ _ _ _)
    · exact h.elim
  · exact h.elim
theorem s_lastore (hB : Bd G d M MC MS p R s m args meth c) (hd : decode M.cd pc = .ok (.lastore, 1)) (h : qst st (fun x i a r => match lay[a]? with
      | some sh => sh.1 = 3 ∧ vp_in i sh.2.1 ∧ VZ G M MC MS p e R s m args below meth c Qs (pc + 1) loc r lay (sl μ a i.toNatClampNeg x) bc bs
      | none => False)) : VZ G M MC MS p e R s m args below meth c Qs pc loc st lay μ bc bs := by
  unfold qst at h
  split at h
  · rename_i x i a r
    split at h
    · rename_i sh hsh
      obtain ⟨h1, h2, h3⟩ := h
      intro H locs cells slots ls hl hP hz hS hc hs
      have he := wl_get (G := G) (μ := μ) hsh
      rw [ent_3 h1] at he
      refine W.last hB.1 hB.2.1 (hP a _ he) ((hB.K.2 3 _ rfl).1 sh.2.1 (fun j => .long (μ.2 a j))) (fun q => by cases q) (by show ¬ (i < 0 ∨ (arrV _ _ _).slots.size ≤ _); rw [arrV_size]; exact h2) rfl rfl hd fun H1 e1 e2 e3 => ?_
      refine h3 H1 _ cells slots ls hl (up_P hP (fun b s hb hs => ⟨hs, sl_ent b s hb⟩) (fun s hs => ?_) e3) (by rw [e2, hz]) (hS.put e2 e3 (Nat.le_add_right _ _)) hc hs
      rw [hsh] at hs
      cases hs
      rw [ent_3 h1, sl_at]
      show H1[G.z + a]? = some (vp_cell _ _)
      rw [e1]
      exact congrArg some (set_l _ _ _ _ _)
    · exact h.elim
  · exact h.elim
theorem swt_find {x : Int32} {f : Nat → Prop} : ∀ (lo : Int) (os : List Int), swt x pc lo os f → ∀ (j : Nat) (o : Int), os[j]? = some o → x.toInt = lo + (j : Int) → f ((pc : Int) + o).toNat
  | _, [], _, j, o, h, _ => by simp at h
  | lo, o' :: r, h, 0, o, hj, hx => by
    simp only [List.getElem?_cons_zero, Option.some.injEq] at hj
    subst hj
    exact h.1 (by simpa using hx)
  | lo, o' :: r, h, j + 1, o, hj, hx => swt_find (lo + 1) r h.2 j o (by simpa using hj) (by rw [hx]; omega)
theorem s_tsw (hB : Bd G d M MC MS p R s m args meth c) {df lo hi : Int} {os : Array Int} {len : Nat} (ht : tok pc (.tableswitch df lo hi os) = true) (hd : decode M.cd pc = .ok (.tableswitch df lo hi os, len)) (h : p1 st (fun x r => ((x.toInt < lo ∨ hi < x.toInt) → VZ G M MC MS p e R s m args below meth c Qs ((pc : Int) + df).toNat loc r lay μ bc bs) ∧ lo + os.size = hi + 1 ∧ swt x pc lo os.toList (fun t => VZ G M MC MS p e R s m args below meth c Qs t loc r lay μ bc bs))) : VZ G M MC MS p e R s m args below meth c Qs pc loc st lay μ bc bs := by
  unfold p1 at h
  split at h
  · rename_i x r
    obtain ⟨h1, h2, h3⟩ := h
    unfold tok at ht
    simp only [Bool.and_eq_true, decide_eq_true_eq, List.all_eq_true] at ht
    intro H locs cells slots ls hl hP hz hS hc hs
    by_cases hx : x.toInt < lo ∨ hi < x.toInt
    · exact lv_tableOut hB.1 hB.2.1 hd hx (tgt := ((pc : Int) + df).toNat) (by omega) (h1 hx H locs cells slots ls hl hP hz hS hc hs)
    · have hj : (x.toInt - lo).toNat < os.size := by omega
      have ho : os[(x.toInt - lo).toNat]? = some os[(x.toInt - lo).toNat] := Array.getElem?_eq_getElem hj
      have ho2 : os.toList[(x.toInt - lo).toNat]? = some os[(x.toInt - lo).toNat] := by rw [Array.getElem?_toList]; exact ho
      have hpos := ht.2 _ (List.mem_of_getElem? ho2)
      refine lv_tableIn hB.1 hB.2.1 hd (fun q => hx (Or.inl q)) (fun q => hx (Or.inr q)) ho (tgt := ((pc : Int) + os[(x.toInt - lo).toNat]).toNat) (by omega) ?_
      exact swt_find lo _ h3 _ _ ho2 (by omega) H locs cells slots ls hl hP hz hS hc hs
  · exact h.elim
end SND3
end
section
section SND4
variable {G : Gx} {d : Nat} {M : MI} {MC MS : Nat} {p : Program} {e : Env} {R : Room} {s : State} {m : MethodId} {args : Array Value} {below : List Frame} {meth : Method} {c : Code} {Qs : State → Prop} {Qa : Option Value → List Sh → Mem → Prop} {pc : Nat} {loc : XV} {st : List Value} {lay : List Sh} {μ : Mem} {bc bs : Nat}
theorem swl_find {x : Int32} {df : Int} {f : Nat → Prop} : ∀ (os : List (Int × Int)), swl x pc df os f → ∃ o, Op.lookupswitch.offset os df x.toInt = o ∧ f ((pc : Int) + o).toNat ∧ (o = df ∨ ∃ q ∈ os, q.2 = o)
  | [], h => ⟨df, rfl, h, Or.inl rfl⟩
  | o :: r, h => by
    by_cases hx : x.toInt = o.1
    · refine ⟨o.2, ?_, h.1 hx, Or.inr ⟨o, List.mem_cons_self, rfl⟩⟩
      obtain ⟨o1, o2⟩ := o
      simp only at hx
      subst hx
      simp [Op.lookupswitch.offset]
    · obtain ⟨q, h1, h2, h3⟩ := swl_find r (h.2 hx)
      refine ⟨q, ?_, h2, ?_⟩
      · obtain ⟨o1, o2⟩ := o
        simp only at hx
        have hx' : ¬ o1 = x.toInt := fun q => hx q.symm
        simp only [Op.lookupswitch.offset] at h1 ⊢
        simp [hx, hx', h1]
      · rcases h3 with h3 | ⟨z, h3, h4⟩
        · exact Or.inl h3
        · exact Or.inr ⟨z, List.mem_cons_of_mem _ h3, h4⟩
theorem s_lsw (hB : Bd G d M MC MS p R s m args meth c) {df : Int} {os : Array (Int × Int)} {len : Nat} (ht : tok pc (.lookupswitch df os) = true) (hd : decode M.cd pc = .ok (.lookupswitch df os, len)) (h : p1 st (fun x r => swl x pc df os.toList (fun t => VZ G M MC MS p e R s m args below meth c Qs t loc r lay μ bc bs))) : VZ G M MC MS p e R s m args below meth c Qs pc loc st lay μ bc bs := by
  unfold p1 at h
  split at h
  · rename_i x r
    unfold tok at ht
    simp only [Bool.and_eq_true] at ht
    obtain ⟨⟨t1, t2⟩, t3⟩ := ht
    have t1 := of_decide_eq_true t1
    have t2 := List.all_eq_true.mp t2
    obtain ⟨o, h1, h2, h3⟩ := swl_find _ h
    intro H locs cells slots ls hl hP hz hS hc hs
    have hpos : 0 ≤ (pc : Int) + o := by
      rcases h3 with h3 | ⟨q, h3, h4⟩
      · rw [h3]; exact t1
      · rw [← h4]; exact of_decide_eq_true (t2 q h3)
    exact lv_lookup hB.1 hB.2.1 hd t3 h1 (tgt := ((pc : Int) + o).toNat) (by omega) (h2 H locs cells slots ls hl hP hz hS hc hs)
  · exact h.elim
theorem s_max (hB : Bd G d M MC MS p R s m args meth c) {n : Nat} (hd : decode M.cd pc = .ok (.invokestatic n, 3)) (hj : jlk M.1 n = some 1) (h : p2 st (fun x y r => szs r ≤ 8 ∧ 0 < d ∧ VZ G M MC MS p e R s m args below meth c Qs (pc + 3) loc (.int (if x < y then y else x) :: r) lay μ bc bs)) : VZ G M MC MS p e R s m args below meth c Qs pc loc st lay μ bc bs := by
  unfold p2 at h
  split at h
  · rename_i y x r
    obtain ⟨h1, h2, h3⟩ := h
    intro H locs cells slots ls hl hP hz hS hc hs
    unfold jlk at hj
    obtain ⟨q, hq, hqe⟩ := Option.map_eq_some_iff.mp hj
    have g1 := List.find?_some hq
    simp only [Bool.and_eq_true, beq_iff_eq] at g1
    have g2 := List.all_eq_true.mp jTab_ok q (List.mem_of_find?_eq_some hq)
    obtain ⟨a1, a2, a3, a4⟩ := q
    dsimp only at g1 hqe
    obtain ⟨rfl, rfl⟩ := g1
    subst hqe
    have g3 := hB.ts _ (gat_mem g2)
    obtain ⟨-, -, hml, -, -, -, -, -, -, -, hfr, hlo, hRc, hRs, -⟩ := id hB
    exact va_mmax hB.1 hB.2.1 (by rw [hml, hl.1.1]) hB.own g3 (hB.ts _ jw_max_s) (hB.ts _ jw_math_i) (hB.ts _ jw_max_c) (by omega) (by rw [szs_cv]; omega) (by omega) (by omega) hd (h3 H locs cells slots ls hl hP hz hS hc hs)
  · exact h.elim
theorem s_min (hB : Bd G d M MC MS p R s m args meth c) {n : Nat} (hd : decode M.cd pc = .ok (.invokestatic n, 3)) (hj : jlk M.1 n = some 2) (h : p2 st (fun x y r => szs r ≤ 8 ∧ 0 < d ∧ VZ G M MC MS p e R s m args below meth c Qs (pc + 3) loc (.int (if y < x then y else x) :: r) lay μ bc bs)) : VZ G M MC MS p e R s m args below meth c Qs pc loc st lay μ bc bs := by
  unfold p2 at h
  split at h
  · rename_i y x r
    obtain ⟨h1, h2, h3⟩ := h
    intro H locs cells slots ls hl hP hz hS hc hs
    unfold jlk at hj
    obtain ⟨q, hq, hqe⟩ := Option.map_eq_some_iff.mp hj
    have g1 := List.find?_some hq
    simp only [Bool.and_eq_true, beq_iff_eq] at g1
    have g2 := List.all_eq_true.mp jTab_ok q (List.mem_of_find?_eq_some hq)
    obtain ⟨a1, a2, a3, a4⟩ := q
    dsimp only at g1 hqe
    obtain ⟨rfl, rfl⟩ := g1
    subst hqe
    have g3 := hB.ts _ (gat_mem g2)
    obtain ⟨-, -, hml, -, -, -, -, -, -, -, hfr, hlo, hRc, hRs, -⟩ := id hB
    exact va_mmin hB.1 hB.2.1 (by rw [hml, hl.1.1]) hB.own g3 (hB.ts _ jw_min_s) (hB.ts _ jw_math_i) (hB.ts _ jw_min_c) (by omega) (by rw [szs_cv]; omega) (by omega) (by omega) hd (h3 H locs cells slots ls hl hP hz hS hc hs)
  · exact h.elim
theorem s_abs (hB : Bd G d M MC MS p R s m args meth c) {n : Nat} (hd : decode M.cd pc = .ok (.invokestatic n, 3)) (hj : jlk M.1 n = some 3) (h : p1 st (fun x r => szs r ≤ 8 ∧ 0 < d ∧ VZ G M MC MS p e R s m args below meth c Qs (pc + 3) loc (.int (if 0 ≤ x then x else 0 - x) :: r) lay μ bc bs)) : VZ G M MC MS p e R s m args below meth c Qs pc loc st lay μ bc bs := by
  unfold p1 at h
  split at h
  · rename_i x r
    obtain ⟨h1, h2, h3⟩ := h
    intro H locs cells slots ls hl hP hz hS hc hs
    unfold jlk at hj
    obtain ⟨q, hq, hqe⟩ := Option.map_eq_some_iff.mp hj
    have g1 := List.find?_some hq
    simp only [Bool.and_eq_true, beq_iff_eq] at g1
    have g2 := List.all_eq_true.mp jTab_ok q (List.mem_of_find?_eq_some hq)
    obtain ⟨a1, a2, a3, a4⟩ := q
    dsimp only at g1 hqe
    obtain ⟨rfl, rfl⟩ := g1
    subst hqe
    have g3 := hB.ts _ (gat_mem g2)
    obtain ⟨-, -, hml, -, -, -, -, -, -, -, hfr, hlo, hRc, hRs, -⟩ := id hB
    exact va_mabs hB.1 hB.2.1 (by rw [hml, hl.1.1]) hB.own g3 (hB.ts _ jw_abs_s) (hB.ts _ jw_math_i) (hB.ts _ jw_abs_c) (by omega) (by rw [szs_cv]; omega) (by omega) (by omega) hd (h3 H locs cells slots ls hl hP hz hS hc hs)
  · exact h.elim
theorem s_oinit (hB : Bd G d M MC MS p R s m args meth c) {n : Nat} (hd : decode M.cd pc = .ok (.invokespecial n, 3)) (hj : jlk M.1 n = some 5) (h : pr st (fun _ r => szs r ≤ 8 ∧ 0 < d ∧ VZ G M MC MS p e R s m args below meth c Qs (pc + 3) loc r lay μ bc bs)) : VZ G M MC MS p e R s m args below meth c Qs pc loc st lay μ bc bs := by
  unfold pr at h
  split at h
  · rename_i x r
    obtain ⟨h1, h2, h3⟩ := h
    intro H locs cells slots ls hl hP hz hS hc hs
    unfold jlk at hj
    obtain ⟨q, hq, hqe⟩ := Option.map_eq_some_iff.mp hj
    have g1 := List.find?_some hq
    simp only [Bool.and_eq_true, beq_iff_eq] at g1
    have g2 := List.all_eq_true.mp jTab_ok q (List.mem_of_find?_eq_some hq)
    obtain ⟨a1, a2, a3, a4⟩ := q
    dsimp only at g1 hqe
    obtain ⟨rfl, rfl⟩ := g1
    subst hqe
    have g3 := hB.ts _ (gat_mem g2)
    obtain ⟨-, -, hml, -, -, -, -, -, -, -, hfr, hlo, hRc, hRs, -⟩ := id hB
    exact W.objInit hB.1 hB.2.1 hB.own g3 (hB.ts _ jw_oi_i) (hB.ts _ jw_oi_c) rfl (by rw [hml]; exact hl.1.1) rfl hd (by omega) (by have := szs_cv G r; show 2 * 0 + _ + 12 ≤ _; omega) (h3 H locs cells slots ls hl hP hz hS hc hs)
  · exact h.elim
theorem va_S.grow {A : Nat → Prop} {H0 H H1 : Heap} {locs : List Loc} (h : va_S A H0 H locs) (z : H.size ≤ H1.size) (oq : ∀ q : Nat, q < H.size → H1[q]? = H[q]?) : va_S A H0 H1 locs :=
  ⟨Nat.le_trans h.1 z, fun q h1 h2 => (oq q (Nat.lt_of_lt_of_le h1 h.1)).trans (h.2.1 q h1 h2), h.2.2⟩
theorem app_P {μ' : Mem} {H H1 : Heap} {sh : Sh} (hP : va_P G.D vwCl (wl G lay μ) H) (hz : H.size = G.z + lay.length) (hk : ∀ b s, lay[b]? = some s → ent G s b μ' = ent G s b μ) (hn : va_at G.D vwCl (G.z + lay.length, ent G sh lay.length μ') H1) (oq : ∀ q : Nat, q < H.size → H1[q]? = H[q]?) : va_P G.D vwCl (wl G (lay ++ [sh]) μ') H1 := by
  rw [wl_app hk]
  refine va_P.app (fun k q hq => (hP k q hq).kept (oq _ ((hP k q hq).lt))) (fun k q hq => ?_)
  have h0 : k < 1 := (List.getElem?_eq_some_iff.mp hq).1
  rw [show k = 0 by omega] at hq
  cases hq
  exact hn
theorem clr_ent' (b : Nat) (s : Sh) (hb : lay[b]? = some s) : ent G s b (clr μ lay.length) = ent G s b μ := clr_ent b s (Nat.ne_of_lt (List.getElem?_eq_some_iff.mp hb).1)
theorem kd_def : ∀ ci, ci < 12 → (List.range (NF ci)).all (fun j => decide (((kdT ci).getD j 9) = (match tyT ci j with | .int => 0 | .long => 1 | .boolean => 3 | _ => 2)) && (isRT (tyT ci j) || decide (tyT ci j = .int) || decide (tyT ci j = .long) || decide (tyT ci j = .boolean))) = true ∧ (kdT ci).length = NF ci := by decide +kernel
theorem s_new (hB : Bd G d M MC MS p R s m args meth c) {n : Nat} (hd : decode M.cd pc = .ok (.new n, 3)) (h : match nlk (inf M).1 n with
    | some ci => 1 ≤ bc ∧ NF ci ≤ bs ∧ VZ G M MC MS p e R s m args below meth c Qs (pc + 3) loc (.ref lay.length :: st) (lay ++ [(ci + 6, NF ci, List.replicate (NF ci) none)]) (clr μ lay.length) (bc - 1) (bs - NF ci)
    | none => False) : VZ G M MC MS p e R s m args below meth c Qs pc loc st lay μ bc bs := by
  split at h
  · rename_i ci hj
    obtain ⟨h1, h2, h3⟩ := h
    intro H locs cells slots ls hl hP hz hS hc hs
    unfold nlk at hj
    obtain ⟨q, hq, hqe⟩ := Option.map_eq_some_iff.mp hj
    have g1 := List.find?_some hq
    simp only [Bool.and_eq_true, beq_iff_eq] at g1
    have g2 := List.all_eq_true.mp nTab_ok q (List.mem_of_find?_eq_some hq)
    obtain ⟨a1, a2, a3, a4, a5, a6⟩ := q
    dsimp only at g1 hqe
    obtain ⟨rfl, rfl⟩ := g1
    subst hqe
    unfold nlkB at g2
    simp only [Bool.and_eq_true, decide_eq_true_eq] at g2
    obtain ⟨⟨⟨k1, k2⟩, k3⟩, k4⟩ := g2
    have hct := vwCl_at a3 k4
    have hKn := hB.K.1 a3 _ hct
    obtain ⟨-, -, hml, -, -, -, -, -, -, -, hfr, hlo, hRc, hRs, -⟩ := id hB
    refine W.newcK hB.1 hB.2.1 hB.own (hB.ts _ (gat_mem k1)) (hB.ts _ (gat_mem k2)) (hB.ts _ (gat_mem k3)) rfl hd (by omega) (by omega) hKn.2.1 rfl fun H1 kC hkC e1 z1 o1 => ?_
    rw [hz]
    refine h3 H1 locs (cells + 1) (slots + NF a3) ls hl (app_P hP hz clr_ent' ?_ o1) (by rw [z1, hz]; simp; omega) (hS.grow (by omega) o1) (by omega) (by omega)
    rw [hz] at e1
    refine ⟨_, hct, (u_born (tyT a3) hB.ts (inTT a3 k4) hKn hkC e1 (tyTT a3 k4)).to (fun j hj => ?_)⟩
    obtain ⟨kd1, kd2⟩ := kd_def a3 k4
    have kd3 := List.all_eq_true.mp kd1 j (List.mem_range.mpr hj)
    simp only [Bool.and_eq_true, decide_eq_true_eq, Bool.or_eq_true] at kd3
    have hkj : (kdT a3)[j]? = some ((kdT a3).getD j 9) := by
      rw [List.getD_eq_getElem?_getD, List.getElem?_eq_getElem (by rw [kd2]; exact hj)]
      rfl
    show defaultValue (tyT a3 j) = vp_V (fvs G a3 (List.replicate (NF a3) none) lay.length (clr μ lay.length)) j
    unfold vp_V
    rw [List.getD_eq_getElem?_getD, fvs_get hkj, kd3.1]
    rcases kd3.2 with ((q | q) | q) | q
    · cases hty : tyT a3 j <;> rw [hty] at q <;> first | (cases q; done) | skip
      all_goals
        show Value.null = va_rf (((List.replicate (NF a3) (none : Option Nat)).getD j none).map (fun b => G.z + b))
        rw [List.getD_eq_getElem?_getD, List.getElem?_replicate]
        split <;> rfl
    · rw [q]; simp [fv, clr, defaultValue]
    · rw [q]; simp [fv, clr, defaultValue]
    · rw [q]; simp [fv, clr, defaultValue]
  · exact h.elim
theorem arr0 (cA : ClassId) (n : Nat) (t : ArrayType) (k : Nat) (hk : atk t = k) (h4 : k < 4) : arrV cA n (fun _ => defaultValue (newarray.typeOf t)) = vp_cell cA (n, if k = 3 then .inr (.inl (fun _ => 0)) else .inl (fun _ => 0)) := by
  subst hk
  cases t <;> first | rfl | (simp [atk, newarray.typeOf] at h4)
theorem s_newarray (hB : Bd G d M MC MS p R s m args meth c) {t : ArrayType} (hd : decode M.cd pc = .ok (.newarray t, 2)) (h : p1 st (fun n r => ¬ n < 0 ∧ atk t < 4 ∧ n.toNatClampNeg ≤ 60000000 ∧ 1 ≤ bc ∧ n.toNatClampNeg ≤ bs ∧ VZ G M MC MS p e R s m args below meth c Qs (pc + 2) loc (.ref lay.length :: r) (lay ++ [(atk t, n.toNatClampNeg, [])]) (clr μ lay.length) (bc - 1) (bs - n.toNatClampNeg))) : VZ G M MC MS p e R s m args below meth c Qs pc loc st lay μ bc bs := by
  unfold p1 at h
  split at h
  · rename_i n r
    obtain ⟨h1, h2, h3, h4, h5, h6⟩ := h
    intro H locs cells slots ls hl hP hz hS hc hs
    obtain ⟨-, -, hml, -, -, -, -, -, -, -, hfr, hlo, hRc, hRs, -⟩ := id hB
    have hw : Cond.arrayClass (newarray.typeOf t) ∈ gtbl := by
      cases t <;> first | exact jw_arr_int | exact jw_arr_boolean | exact jw_arr_byte | exact jw_arr_long | (simp [atk, newarray.typeOf] at h2)
    have hcb : componentBytes (newarray.typeOf t) ≤ 8 := by cases t <;> decide
    refine va_newaK hB.1 hB.2.1 (hB.ts _ hw) rfl hd rfl h1 rfl (Nat.le_trans (Nat.mul_le_mul h3 hcb) (by decide)) (by omega) (by omega) hz fun H1 cA e1 z1 o1 hAr hNm => ?_
    rw [← hz] at o1
    refine h6 H1 locs (cells + 1) (slots + n.toNatClampNeg) ls hl (app_P hP hz clr_ent' ?_ o1) (by rw [z1]; simp; omega) (hS.grow (by omega) o1) (by omega) (by omega)
    have hT : G.T (atk t) = cA := by
      have key : ∀ k ty, (tys G)[k]? = some (G.T k, ty) → newarray.typeOf t = ty → atk t = k → (∀ C, ty ≠ .object C) → G.T (atk t) = cA := fun k ty h1 h2 h3 h4 => by
        have h5 := (hB.K.2 k _ h1).2
        rw [h3]
        have h6 : s.vm.findClass ("[" ++ ty.toString) = some (G.T k) := by
          cases ty <;> first | exact h5 | exact absurd rfl (h4 _)
        rw [h2] at hNm
        exact Option.some.inj (h6.symm.trans hNm)
      cases t <;> first | exact key 0 .int rfl rfl rfl (fun _ q => by cases q) | exact key 1 .boolean rfl rfl rfl (fun _ q => by cases q) | exact key 2 .byte rfl rfl rfl (fun _ q => by cases q) | exact key 3 .long rfl rfl rfl (fun _ q => by cases q) | (simp [atk, newarray.typeOf] at h2)
    rw [arr0 cA _ t _ rfl h2, ← hT] at e1
    have hcl1 : (clr μ lay.length).1 lay.length = fun _ => 0 := by simp [clr]
    have hcl2 : (clr μ lay.length).2 lay.length = fun _ => 0 := by simp [clr]
    generalize atk t = k at h2 e1 ⊢
    match k, h2, e1 with
    | 0, _, e1 => rw [ent_0 rfl, hcl1]; exact e1
    | 1, _, e1 => rw [ent_1 rfl, hcl1]; exact e1
    | 2, _, e1 => rw [ent_2 rfl, hcl1]; exact e1
    | 3, _, e1 => rw [ent_3 rfl, hcl2]; exact e1
  · exact h.elim
theorem s_copy (hB : Bd G d M MC MS p R s m args meth c) {nn : Nat} (hd : decode M.cd pc = .ok (.invokestatic nn, 3)) (hj : jlk M.1 nn = some 4) (h : pac st (fun n dp a sp a0 r => szs r ≤ 8 ∧ 0 < d ∧ ¬ sp < 0 ∧ ¬ dp < 0 ∧ ¬ n < 0 ∧ (match lay[a0]?, lay[a]? with
      | some s0, some s1 => s0.1 = s1.1 ∧ sp.toNatClampNeg + n.toNatClampNeg ≤ s0.2.1 ∧ dp.toNatClampNeg + n.toNatClampNeg ≤ s1.2.1 ∧ (s0.1 = 0 ∨ s0.1 = 1 ∧ ∀ i, i < n.toNatClampNeg → (gi μ a0 (sp.toNatClampNeg + i) = 0 ∨ gi μ a0 (sp.toNatClampNeg + i) = 1)) ∧ VZ G M MC MS p e R s m args below meth c Qs (pc + 3) loc r lay (sar μ a (va_cpy (μ.1 a0) (μ.1 a) sp.toNatClampNeg dp.toNatClampNeg n.toNatClampNeg)) bc bs
      | _, _ => False))) : VZ G M MC MS p e R s m args below meth c Qs pc loc st lay μ bc bs := by
  unfold pac at h
  split at h
  · rename_i n dp a sp a0 r
    obtain ⟨h1, h2, h3, h4, h5, h⟩ := h
    split at h
    · rename_i s0 s1 hs0 hs1
      obtain ⟨k1, k2, k3, k4, k5⟩ := h
      intro H locs cells slots ls hl hP hz hS hc hs
      unfold jlk at hj
      obtain ⟨q, hq, hqe⟩ := Option.map_eq_some_iff.mp hj
      have g1 := List.find?_some hq
      simp only [Bool.and_eq_true, beq_iff_eq] at g1
      have g2 := List.all_eq_true.mp jTab_ok q (List.mem_of_find?_eq_some hq)
      obtain ⟨a1, a2, a3, a4⟩ := q
      dsimp only at g1 hqe
      obtain ⟨rfl, rfl⟩ := g1
      subst hqe
      have g3 := hB.ts _ (gat_mem g2)
      obtain ⟨-, -, hml, -, -, -, -, -, -, -, hfr, hlo, hRc, hRs, -⟩ := id hB
      have go : ∀ (t : Nat) (ty : FieldType), (tys G)[t]? = some (G.T t, ty) → ent G s0 a0 μ = .inl (G.T t, s0.2.1, .inl (μ.1 a0)) → (∀ μ', ent G s1 a μ' = .inl (G.T t, s1.2.1, .inl (μ'.1 a))) → refKind ty = false → (∀ i, i < n.toNatClampNeg → fits ty (.int (μ.1 a0 (sp.toNatClampNeg + i))) = true) →
          W p G.1 e R s m args below meth c H locs cells slots Qs (F0 m pc ls ((Value.int n :: .int dp :: .ref a :: .int sp :: .ref a0 :: r).map (cv G))) := by
        intro t ty ht e0 e1 hrk hft T hT X
        have he0 := wl_get (G := G) (μ := μ) hs0
        have he1 := wl_get (G := G) (μ := μ) hs1
        rw [e0] at he0
        rw [e1] at he1
        have hc0 : H[G.z + a0]? = some (vp_cell (G.T t) (s0.2.1, .inl (μ.1 a0))) := hP a0 _ he0
        have hc1 : H[G.z + a]? = some (vp_cell (G.T t) (s1.2.1, .inl (μ.1 a))) := hP a _ he1
        obtain ⟨-, kA, hkA, cmA, hkkA⟩ := (hB.K.2 t _ ht).1 s0.2.1 (fun j => .int (μ.1 a0 j))
        have nn : ∀ x : Int32, ¬ x < 0 → x.toInt = (x.toNatClampNeg : Int) := fun x hx => by
          obtain ⟨j, hj, rfl⟩ := nI_of hx
          rw [nI_toInt hj, nI_clamp hj]
        have hloc9 : 2 * (F0 m pc ls ((Value.int n :: .int dp :: .ref a :: .int sp :: .ref a0 :: r).map (cv G))).monitorRoom + ((r.map (cv G)).map fun v => v.category).sum + (nativeFrameWords "java/lang/System" "arraycopy" 5 + 11) ≤ R.locals := by
          have h8 := szs_cv G r
          have e9 : nativeFrameWords "java/lang/System" "arraycopy" 5 = 7 := by decide +kernel
          have e8 : (F0 m pc ls ((Value.int n :: .int dp :: .ref a :: .int sp :: .ref a0 :: r).map (cv G))).monitorRoom = 0 := rfl
          rw [e9, e8]
          omega
        obtain ⟨vm', X', step⟩ := X.arraycopy hB.1 hB.own g3 (hB.ts _ jw_ac_n) (hB.ts _ jw_ac_s) (hB.ts _ jw_sys_i) (src := G.z + a0) (dst := G.z + a) (cs := vp_cell (G.T t) (s0.2.1, .inl (μ.1 a0))) (cd := vp_cell (G.T t) (s1.2.1, .inl (μ.1 a))) (srcPos := sp) (destPos := dp) (n := n) (by rw [hT]; exact hc0) (by rw [hT]; exact hc1)
          (fun _ h => by cases h) (fun _ h => by cases h) (fun h => by cases h) (fun h => by cases h) hkA hkA hkkA hkkA (by simp [hrk]) h3 h4 h5
          (by rw [nn sp h3, nn n h5]; show ¬ _ > ((arrV _ s0.2.1 _).slots.size : Int); rw [arrV_size]; omega)
          (by rw [nn dp h4, nn n h5]; show ¬ _ > ((arrV _ s1.2.1 _).slots.size : Int); rw [arrV_size]; omega)
          (fun vm₁ _ i hi => by
            have e : (vp_cell (G.T t) (s0.2.1, .inl (μ.1 a0))).slots.getD (sp.toNatClampNeg + i) .null = .int (μ.1 a0 (sp.toNatClampNeg + i)) := by
              show (arrV _ s0.2.1 (fun j => .int (μ.1 a0 j))).slots.getD _ _ = _
              rw [Array.getD_eq_getD_getElem?, arrV_read _ _ (by omega)]
              rfl
            refine ⟨?_, ?_⟩
            · rw [e]
              exact hft i hi
            · rw [e]
              exact trivial)
          (g := F0 m pc ls ((Value.int n :: .int dp :: .ref a :: .int sp :: .ref a0 :: r).map (cv G))) rfl (by rw [hml]; exact hl.1.1) (rest := r.map (cv G)) rfl (by rw [hB.2.1]; exact hd) (by omega) hloc9
        have e9 : copied (vp_cell (G.T t) (s0.2.1, .inl (μ.1 a0))) (vp_cell (G.T t) (s1.2.1, .inl (μ.1 a))) sp dp n = vp_cell (G.T t) (s1.2.1, .inl (va_cpy (μ.1 a0) (μ.1 a) sp.toNatClampNeg dp.toNatClampNeg n.toNatClampNeg)) := va_copied (fun z => .int z) _ _ _ _ k2
        rw [e9] at X' step
        have hla : G.z + a < H.size := (Array.getElem?_eq_some_iff.mp hc1).1
        have hheap : ((T.setVm vm').setCell (G.z + a) (vp_cell (G.T t) (s1.2.1, .inl (va_cpy (μ.1 a0) (μ.1 a) sp.toNatClampNeg dp.toNatClampNeg n.toNatClampNeg)))).heap = H.setIfInBounds (G.z + a) (vp_cell (G.T t) (s1.2.1, .inl (va_cpy (μ.1 a0) (μ.1 a) sp.toNatClampNeg dp.toNatClampNeg n.toNatClampNeg))) := by rw [← hT]; rfl
        have oq : ∀ q : Nat, q ≠ G.z + a → (H.setIfInBounds (G.z + a) (vp_cell (G.T t) (s1.2.1, .inl (va_cpy (μ.1 a0) (μ.1 a) sp.toNatClampNeg dp.toNatClampNeg n.toNatClampNeg))))[q]? = H[q]? := fun q hq => by simp [Array.getElem?_setIfInBounds, Ne.symm hq]
        obtain ⟨t2, a1, b1⟩ := k5 _ _ cells slots ls hl (up_P (a := a) hP (fun b s hb hs => ⟨hs, sar_ent b s hb⟩) (fun s hs => by
            rw [hs1] at hs
            cases hs
            rw [e1]
            show (H.setIfInBounds (G.z + a) _)[G.z + a]? = some _
            simp [Array.getElem?_setIfInBounds, hla, sar]) oq) (by rw [Array.size_setIfInBounds, hz]) ⟨by rw [Array.size_setIfInBounds]; exact hS.1, fun q g1 g2 => by
            rw [oq q (fun e => g2 (by rw [e]; exact Nat.le_add_right _ _))]
            exact hS.2.1 q g1 g2, fun q hq => by
            rcases List.mem_append.mp hq with h | h
            · exact hS.2.2 q h
            · obtain ⟨z, -, hz⟩ := List.mem_map.mp h
              rw [← hz]
              exact Nat.le_add_right _ _⟩ hc hs _ hheap X'
        exact ⟨t2, step t2 a1, b1⟩
      rcases k4 with k4 | ⟨k4, k6⟩
      · exact go 0 .int rfl (ent_0 k4) (fun μ' => ent_0 (k1 ▸ k4)) rfl (fun i _ => rfl)
      · exact go 1 .boolean rfl (ent_1 k4) (fun μ' => ent_1 (k1 ▸ k4)) rfl (fun i hi => by
          have := k6 i hi
          unfold gi at this
          rcases this with q | q <;> rw [q] <;> rfl)
    · exact h.elim
  · exact h.elim
end SND4
end
section
def isNW : Cond → Bool
  | .fieldLinkNest .. => true
  | .methodLinkNest .. => true
  | _ => false
theorem nestW_nw : nestW.all isNW = true := by decide +kernel
theorem aoi_moved {s U : State} (hvm : s.vm.Alike U.vm) (h : (Cond.arrayOver (.array .int)).before #[] s = true) : (Cond.arrayOver (.array .int)).before #[] U = true := by
  have h1 := Cond.arrayOver_setVmC (args := #[]) hvm (.array .int)
  rw [h] at h1
  exact h1
theorem XW.warm {s U : State} (hW : s.WarmedH U.vm) (h : XW s) : XW U := by
  refine ⟨fun w hw => ?_, va_AO.moved hW.alike h.2.1, aoi_moved hW.alike h.2.2⟩
  have h1 := h.1 w hw
  have h2 := List.all_eq_true.mp nestW_nw w hw
  cases w <;> first | (cases h2; done) | exact va_Nw.warmF hW h1 | exact va_Nw.warmM hW h1
theorem XW.same {s U : State} (hv : s.vm = U.vm) (h : XW s) : XW U :=
  ⟨fun w hw => va_Nw.same (nestW_ok w hw) hv (h.1 w hw), va_AO.moved (hv ▸ Vm.Alike.refl s.vm) h.2.1, aoi_moved (hv ▸ Vm.Alike.refl s.vm) h.2.2⟩
theorem gtbl_good {M : MI} (h : mokD M) {big : List Cond} (hb : ∀ w ∈ gtbl, w ∈ big) : GoodIn big (.code M.yn M.cd M.ml M.rt :: gtbl) := by
  obtain ⟨i1, i2, i3, i4, h⟩ := h
  unfold mokB at h
  simp only [Bool.and_eq_true] at h
  have hc : Cond.code M.yn M.cd M.ml M.rt ∈ gtbl := gat_mem h.1.1.1.1.1.1.1.1.1.1.1.1.1
  intro w hw
  have hw2 : w ∈ gtbl := by
    rcases List.mem_cons.mp hw with rfl | q
    · exact hc
    · exact q
  exact ⟨hb w hw2, good_of_word (List.mem_filter.mp hw2).2⟩
theorem mok_facts {M : MI} (h : mokD M) : Cond.code M.yn M.cd M.ml M.rt ∈ gtbl ∧ Cond.initialized M.yn.cls ∈ gtbl ∧ ((inf M).2.2.2.1 = 0 → Cond.static M.yn ∈ gtbl) ∧ ((inf M).2.2.2.1 ≠ 0 → Cond.instanceMethod M.yn ∈ gtbl) ∧ ((inf M).2.2.2.1 = 1 → Cond.selects M.yn.cls M.yn M.yn ∈ gtbl) ∧ plainName M.yn.cls = true ∧ (M.yn.cls ≠ "java/lang/invoke/MethodHandle" ∧ M.yn.cls ≠ "java/lang/invoke/VarHandle" ∧ (parseMethodDescriptor M.yn.desc).map (fun d => d.parameters.length) = some ((inf M).2.2.1 - (if (inf M).2.2.2.1 = 0 then 0 else 1))) ∧ M.ml ≤ 40 ∧ cn M.1 = M.yn.cls ∧ ((inf M).2.2.2.1 = 2 → M.yn.name = "<init>") ∧ ((inf M).2.2.2.1 ≠ 0 → M.1 < 12 ∧ 1 ≤ (inf M).2.2.1) ∧ (inf M).2.1 = (match M.rt with | none => 0 | some .int => 1 | some .long => 2 | some .boolean => 3 | _ => 9) := by
  obtain ⟨i1, i2, i3, i4, h⟩ := h
  unfold mokB at h
  simp only [Bool.and_eq_true] at h
  obtain ⟨⟨⟨⟨⟨⟨⟨⟨⟨⟨⟨⟨⟨g1, g2⟩, g3⟩, g4⟩, g5⟩, g6⟩, g7⟩, g8⟩, g9⟩, g10⟩, g11⟩, g12⟩, g13⟩, g14⟩ := h
  refine ⟨gat_mem g1, gat_mem g2, fun e => ?_, fun e => ?_, fun e => ?_, g5, ⟨of_decide_eq_true g6, of_decide_eq_true g7, of_decide_eq_true g8⟩, of_decide_eq_true g9, of_decide_eq_true g10, of_decide_eq_true g11, of_decide_eq_true g13, of_decide_eq_true g14⟩
  · rw [if_pos e] at g3
    exact gat_mem g3
  · rw [if_neg e] at g3
    exact gat_mem g3
  · rw [if_pos e] at g4
    exact gat_mem g4
theorem mlk_facts {o n : Nat} {N : MI} (h : mlk o n = some N) : mokD N ∧ (Cond.methodLink (cn o) n N.yn ∈ gtbl ∨ Cond.methodLinkNest (cn o) n N.yn "BellRibbons" ∈ nestW) := by
  unfold mlk at h
  obtain ⟨q, hq, hqe⟩ := Option.map_eq_some_iff.mp h
  have h1 := List.find?_some hq
  simp only [Bool.and_eq_true, beq_iff_eq] at h1
  have hm := List.mem_of_find?_eq_some hq
  have h2 := List.all_eq_true.mp mTab_ok q hm
  have h3 := mTab_in q hm
  obtain ⟨a1, a2, a3, a4, a5⟩ := q
  dsimp only at h1 hqe h3
  obtain ⟨rfl, rfl⟩ := h1
  subst hqe
  refine ⟨h3, ?_⟩
  unfold mlkB at h2
  dsimp only at h2
  by_cases e : a4 = 0
  · rw [if_pos e] at h2
    exact Or.inl (gat_mem h2)
  · rw [if_neg e] at h2
    exact Or.inr (List.mem_of_getElem? (of_decide_eq_true h2))
theorem pargs_spec : ∀ (n : Nat) (acc st : List Value) (f : List Value → List Value → Prop), pargs n acc st f → ∃ as r, st = as ++ r ∧ as.length = n ∧ f (as.reverse ++ acc) r
  | 0, acc, st, f, h => ⟨[], st, rfl, rfl, h⟩
  | n + 1, acc, [], f, h => by simp [pargs] at h
  | n + 1, acc, v :: st, f, h => by
    obtain ⟨as, r, h1, h2, h3⟩ := pargs_spec n (v :: acc) st f h
    refine ⟨v :: as, r, by rw [h1]; rfl, by simp [h2], ?_⟩
    simpa using h3
section SND5
variable {G : Gx} {d : Nat} {M : MI} {MC MS : Nat} {p : Program} {e : Env} {R : Room} {s : State} {m : MethodId} {args : Array Value} {below : List Frame} {meth : Method} {c : Code} {Qs : State → Prop} {Qa : Option Value → List Sh → Mem → Prop} {pc : Nat} {loc : XV} {st : List Value} {lay : List Sh} {μ : Mem} {bc bs : Nat}
theorem rep_blind (av : List Value) : FrameBlind (va_Pc (av.map (cv G)) (Rep G lay μ)) := fun a U g mk h => ⟨h.1, h.2.1, h.2.2.1, va_K.moved (u := U) (U := U.calling g mk a) (Vm.Alike.refl U.vm) h.2.2.2.1, XW.same (s := U) (U := U.calling g mk a) rfl h.2.2.2.2⟩
theorem rep_pre {H : Heap} (hB : Bd G d M MC MS p R s m args meth c) (hP : va_P G.D vwCl (wl G lay μ) H) (hz : H.size = G.z + lay.length) (U : State) (hU : U.heap = H) (hW : s.WarmedH U.vm) : Rep G lay μ U := ⟨by rw [hU]; exact hP, by rw [hU]; exact hz, va_K.moved hW.alike hB.K, XW.warm hW hB.xw⟩
/-- behind a call: what came back -/
theorem s_back {N : MI} {as r : List Value} {H : Heap} {locs : List Loc} {cells slots cc ss : Nat} {ls : Array Slot} (hB : Bd G d M MC MS p R s m args meth c) {Q : Option Value → List Sh → Mem → Prop} {a : Array Value} (hrk : (inf N).2.1 = 0 ∨ (inf N).2.1 = 1 ∨ (inf N).2.1 = 2 ∨ (inf N).2.1 = 3)
    (hr : va_Run p G.1 e R s m args below meth c H locs cells slots cc ss (F0 m pc ls as) (r.map (cv G)) (KQ G (inf N).2.1 Q a) (fun q => G.z ≤ q)) (hS : va_S (fun q => G.z ≤ q) s.heap H locs)
    (kk : ∀ (v : Option Value) (lay' : List Sh) (μ' : Mem) (H1 : Heap) (locs1 : List Loc), Q v lay' μ' → va_P G.D vwCl (wl G lay' μ') H1 → H1.size = G.z + lay'.length → va_S (fun q => G.z ≤ q) s.heap H1 locs1 → W p G.1 e R s m args below meth c H1 locs1 (cells + cc) (slots + ss) Qs (F0 m (pc + 3) ls ((pushv v r).map (cv G)))) : W p G.1 e R s m args below meth c H locs cells slots Qs (F0 m pc ls as) := by
  rcases hrk with h | h | h | h
  · rw [h] at hr
    exact va_callv (a := a) hr hS (fun q _ hq => hq) (fun q hq => hq) (fun u t H1 locs1 ht _ hq hb _ _ hs1 => by
      have := kk none u.1 u.2 H1 locs1 hq (by rw [← ht]; exact hb.1) (by rw [← ht]; exact hb.2.1) hs1
      exact this)
  · rw [h] at hr
    exact va_calli (a := a) hr hS (fun q _ hq => hq) (fun q hq => hq) (fun v u t H1 locs1 ht _ hq hb _ _ hs1 => by
      have := kk (some (.int v)) u.1 u.2 H1 locs1 hq (by rw [← ht]; exact hb.1) (by rw [← ht]; exact hb.2.1) hs1
      exact this)
  · rw [h] at hr
    exact va_calll (a := a) hr hS (fun q _ hq => hq) (fun q hq => hq) (fun v u t H1 locs1 ht _ hq hb _ _ hs1 => by
      have := kk (some (.long v)) u.1 u.2 H1 locs1 hq (by rw [← ht]; exact hb.1) (by rw [← ht]; exact hb.2.1) hs1
      exact this)
  · rw [h] at hr
    exact va_calli (a := a) hr hS (fun q _ hq => hq) (fun q hq => hq) (fun v u t H1 locs1 ht _ hq hb _ _ hs1 => by
      have := kk (some (.int v)) u.1 u.2 H1 locs1 hq (by rw [← ht]; exact hb.1) (by rw [← ht]; exact hb.2.1) hs1
      exact this)
theorem rk_cases {N : MI} (h : (inf N).2.1 = (match N.rt with | none => 0 | some .int => 1 | some .long => 2 | some .boolean => 3 | _ => 9)) (h9 : (inf N).2.1 ≠ 9) : (inf N).2.1 = 0 ∨ (inf N).2.1 = 1 ∨ (inf N).2.1 = 2 ∨ (inf N).2.1 = 3 := by
  revert h
  split <;> intro h <;> omega
theorem mTab_rk : mTab.all (fun q => (inf q.2.2.1).2.1 != 9) = true := by decide +kernel
theorem mlk_rk {o n : Nat} {N : MI} (h : mlk o n = some N) : (inf N).2.1 ≠ 9 := by
  unfold mlk at h
  obtain ⟨q, hq, hqe⟩ := Option.map_eq_some_iff.mp h
  have h2 := List.all_eq_true.mp mTab_rk q (List.mem_of_find?_eq_some hq)
  rw [← hqe]
  simpa using h2
theorem s_vstatic (hB : Bd G d M MC MS p R s m args meth c) {n : Nat} (hd : decode M.cd pc = .ok (.invokestatic n, 3)) {N : MI} (hN : mlk M.1 n = some N) (h0 : (inf N).2.2.2.1 = 0) (hd0 : 0 < d) (h : pargs (inf N).2.2.1 [] st (fun av r => szs r ≤ 8 ∧ KC G (d - 1) N av lay μ bc bs (fun w lay' μ' bc' bs' => VZ G M MC MS p e R s m args below meth c Qs (pc + 3) loc (pushv w r) lay' μ' bc' bs'))) : VZ G M MC MS p e R s m args below meth c Qs pc loc st lay μ bc bs := by
  obtain ⟨as, r, rfl, hlen, hsz, cc, ss, hcc, hss, hK⟩ := pargs_spec _ _ _ _ h
  obtain ⟨hmok, hlink⟩ := mlk_facts hN
  obtain ⟨m1, m2, m3, m4, m5, m6, m7, m8, m9, m10, m11, m12⟩ := mok_facts hmok
  obtain ⟨hx, hb, hml, hown, hts, -, -, -, -, -, hfr, hlo, hRc, hRs, -⟩ := id hB
  intro H locs cells slots ls hl hP hz hS hc hs
  have hstk : ((as ++ r).map (cv G)) = ((as.reverse ++ []).map (cv G)).reverse ++ r.map (cv G) := by simp
  have hn : ((as.reverse ++ []).map (cv G)).length = (inf N).2.2.1 - (if (inf N).2.2.2.1 = 0 then 0 else 1) := by simp [hlen, h0]
  refine s_back (N := N) (a := ((as.reverse ++ []).map (cv G)).toArray) hB (rk_cases m12 (mlk_rk hN)) (Q := fun v lay' μ' => VZ G M MC MS p e R s m args below meth c Qs (pc + 3) loc (pushv v r) lay' μ' (bc - cc) (bs - ss)) ?_ hS (fun v lay' μ' H1 locs1 hv hP1 hz1 hS1 => hv H1 locs1 (cells + cc) (slots + ss) ls hl hP1 hz1 hS1 (by omega) (by omega))
  rcases hlink with hlink | hlink
  · exact va_runS (H := H) (locs := locs) (cells := cells) (slots := slots) (mc := cc) (ms := ss) (As := (as.reverse ++ []).map (cv G)) (Ts := gtbl) (own := cn M.1) (index := n) ⟨hx, hb, hml, hB.own, hts⟩ hK ⟨callB_of (R := R) _ hts (gtbl_good hmok (fun _ q => q)) rfl rfl rfl (hts _ m2) (hts _ hlink) m7 ⟨by show d - 1 + 1 ≤ _; omega, by show 8 + (N.ml + 11) + 64 * (d - 1) ≤ _; omega⟩, hts _ (m3 h0)⟩ ⟨rep_blind _, fun U hU hW => ⟨rfl, rep_pre hB hP hz U hU hW⟩⟩ rfl hn hl.1.1 hstk (lv_room (by rw [szs_cv]; exact hsz)) hd ⟨by omega, by omega⟩
  · exact va_runSN (H := H) (locs := locs) (cells := cells) (slots := slots) (mc := cc) (ms := ss) (As := (as.reverse ++ []).map (cv G)) (Ts := gtbl) (own := cn M.1) (index := n) ⟨hx, hb, hml, hB.own, hts⟩ hK ⟨va_cnB (R := R) _ hts (gtbl_good hmok (fun _ q => q)) rfl rfl rfl (hB.xw.1 _ hlink) (hts _ m2) m7 ⟨by show d - 1 + 1 ≤ _; omega, by show 8 + (N.ml + 11) + 64 * (d - 1) ≤ _; omega⟩, hts _ (m3 h0), trivial⟩ ⟨rep_blind _, fun U hU hW => ⟨rfl, rep_pre hB hP hz U hU hW⟩⟩ rfl hn hl.1.1 hstk (lv_room (by rw [szs_cv]; exact hsz)) hd ⟨by omega, by omega⟩
theorem rcv_spec {o : Nat} {av : List Value} (h : rcv lay o av) : ∃ a r sh, av = .ref a :: r ∧ lay[a]? = some sh ∧ sh.1 = o + 6 := by
  unfold rcv at h
  split at h
  · rename_i a r
    split at h
    · rename_i sh hsh
      exact ⟨a, r, sh, rfl, hsh, h⟩
    · exact h.elim
  · exact h.elim
theorem s_virtual (hB : Bd G d M MC MS p R s m args meth c) {n : Nat} (hd : decode M.cd pc = .ok (.invokevirtual n, 3)) {N : MI} (hN : mlk M.1 n = some N) (h0 : (inf N).2.2.2.1 = 1) (hd0 : 0 < d) (h : pargs (inf N).2.2.1 [] st (fun av r => szs r ≤ 8 ∧ rcv lay (inf N).1 av ∧ KC G (d - 1) N av lay μ bc bs (fun w lay' μ' bc' bs' => VZ G M MC MS p e R s m args below meth c Qs (pc + 3) loc (pushv w r) lay' μ' bc' bs'))) : VZ G M MC MS p e R s m args below meth c Qs pc loc st lay μ bc bs := by
  obtain ⟨as, r, rfl, hlen, hsz, hrc, cc, ss, hcc, hss, hK⟩ := pargs_spec _ _ _ _ h
  obtain ⟨a, av, sh, hav, hsh, hsk⟩ := rcv_spec hrc
  obtain ⟨hmok, hlink⟩ := mlk_facts hN
  obtain ⟨m1, m2, m3, m4, m5, m6, m7, m8, m9, m10, m11, m12⟩ := mok_facts hmok
  obtain ⟨hx, hb, hml, hown, hts, -, -, -, -, -, hfr, hlo, hRc, hRs, -⟩ := id hB
  intro H locs cells slots ls hl hP hz hS hc hs
  have has : as = av.reverse ++ [.ref a] := by
    have := congrArg List.reverse hav
    simpa using this
  have hstk : ((as ++ r).map (cv G)) = (av.map (cv G)).reverse ++ Value.ref (G.z + a) :: r.map (cv G) := by rw [has]; simp [cv]
  have hn : (av.map (cv G)).length = (inf N).2.2.1 - (if (inf N).2.2.2.1 = 0 then 0 else 1) := by
    have : as.length = av.length + 1 := by rw [has]; simp
    rw [List.length_map]
    split <;> omega
  rw [hav] at hK
  have hci := (m11 (by omega)).1
  have hcls : (cn (inf N).1) = N.yn.cls := m9
  have he := wl_get (G := G) (μ := μ) hsh
  rw [ent_obj hsk] at he
  have hrec := va_recv hB.K hP (vwCl_at (inf N).1 hci) he
  dsimp only at hrec
  rw [hcls] at hrec
  refine s_back (N := N) (a := (Value.ref (G.z + a) :: av.map (cv G)).toArray) hB (rk_cases m12 (mlk_rk hN)) (Q := fun v lay' μ' => VZ G M MC MS p e R s m args below meth c Qs (pc + 3) loc (pushv v r) lay' μ' (bc - cc) (bs - ss)) ?_ hS (fun v lay' μ' H1 locs1 hv hP1 hz1 hS1 => hv H1 locs1 (cells + cc) (slots + ss) ls hl hP1 hz1 hS1 (by omega) (by omega))
  rcases hlink with hlink | hlink
  · exact va_runV (As := av.map (cv G)) (b := G.z + a) (C := N.yn.cls) (Ts := gtbl) (own := cn M.1) (index := n) ⟨hx, hb, hml, hB.own, hts⟩ hK ⟨callB_of (R := R) _ hts (gtbl_good hmok (fun _ q => q)) rfl rfl rfl (hts _ m2) (hts _ hlink) m7 ⟨by show d - 1 + 1 ≤ _; omega, by show 8 + (N.ml + 11) + 64 * (d - 1) ≤ _; omega⟩, hts _ (m4 (by omega)), hts _ (m5 h0)⟩ ⟨rep_blind _, hrec, fun U hU hW => ⟨rfl, rep_pre hB hP hz U hU hW⟩⟩ rfl hn hl.1.1 hstk (lv_room (by rw [szs_cv]; exact hsz)) hd ⟨by omega, by omega⟩
  · exact va_runVN (As := av.map (cv G)) (b := G.z + a) (C := N.yn.cls) (Ts := gtbl) (own := cn M.1) (index := n) ⟨hx, hb, hml, hB.own, hts⟩ hK ⟨va_cnB (R := R) _ hts (gtbl_good hmok (fun _ q => q)) rfl rfl rfl (hB.xw.1 _ hlink) (hts _ m2) m7 ⟨by show d - 1 + 1 ≤ _; omega, by show 8 + (N.ml + 11) + 64 * (d - 1) ≤ _; omega⟩, hts _ (m4 (by omega)), hts _ (m5 h0)⟩ ⟨rep_blind _, hrec, fun U hU hW => ⟨rfl, rep_pre hB hP hz U hU hW⟩⟩ rfl hn hl.1.1 hstk (lv_room (by rw [szs_cv]; exact hsz)) hd ⟨by omega, by omega⟩
theorem mTab_init : mTab.all (fun q => (inf q.2.2.1).2.2.2.1 != 2 || q.2.2.1.rt == none) = true := by decide +kernel
theorem mlk_init {o n : Nat} {N : MI} (h : mlk o n = some N) (h2 : (inf N).2.2.2.1 = 2) : N.rt = none := by
  unfold mlk at h
  obtain ⟨q, hq, hqe⟩ := Option.map_eq_some_iff.mp h
  have h3 := List.all_eq_true.mp mTab_init q (List.mem_of_find?_eq_some hq)
  rw [hqe] at h3
  simpa [h2] using h3
theorem s_special (hB : Bd G d M MC MS p R s m args meth c) {n : Nat} (hd : decode M.cd pc = .ok (.invokespecial n, 3)) {N : MI} (hN : mlk M.1 n = some N) (h0 : (inf N).2.2.2.1 = 2) (hd0 : 0 < d) (h : pargs (inf N).2.2.1 [] st (fun av r => szs r ≤ 8 ∧ rcv lay (inf N).1 av ∧ KC G (d - 1) N av lay μ bc bs (fun w lay' μ' bc' bs' => VZ G M MC MS p e R s m args below meth c Qs (pc + 3) loc (pushv w r) lay' μ' bc' bs'))) : VZ G M MC MS p e R s m args below meth c Qs pc loc st lay μ bc bs := by
  obtain ⟨as, r, rfl, hlen, hsz, hrc, cc, ss, hcc, hss, hK⟩ := pargs_spec _ _ _ _ h
  obtain ⟨a, av, sh, hav, hsh, hsk⟩ := rcv_spec hrc
  obtain ⟨hmok, hlink⟩ := mlk_facts hN
  obtain ⟨m1, m2, m3, m4, m5, m6, m7, m8, m9, m10, m11, m12⟩ := mok_facts hmok
  obtain ⟨hx, hb, hml, hown, hts, -, -, -, -, -, hfr, hlo, hRc, hRs, -⟩ := id hB
  intro H locs cells slots ls hl hP hz hS hc hs
  have has : as = av.reverse ++ [.ref a] := by
    have := congrArg List.reverse hav
    simpa using this
  have hstk : ((as ++ r).map (cv G)) = (av.map (cv G)).reverse ++ Value.ref (G.z + a) :: r.map (cv G) := by rw [has]; simp [cv]
  have hn : (av.map (cv G)).length = (inf N).2.2.1 - (if (inf N).2.2.2.1 = 0 then 0 else 1) := by
    have : as.length = av.length + 1 := by rw [has]; simp
    rw [List.length_map]
    split <;> omega
  rw [hav] at hK
  have hrt := mlk_init hN h0
  unfold Kx at hK
  have hgood := gtbl_good hmok (big := gtbl) (fun _ q => q)
  rw [hrt] at hK hgood
  refine s_back (N := N) (a := (Value.ref (G.z + a) :: av.map (cv G)).toArray) hB (rk_cases m12 (mlk_rk hN)) (Q := fun v lay' μ' => VZ G M MC MS p e R s m args below meth c Qs (pc + 3) loc (pushv v r) lay' μ' (bc - cc) (bs - ss)) ?_ hS (fun v lay' μ' H1 locs1 hv hP1 hz1 hS1 => hv H1 locs1 (cells + cc) (slots + ss) ls hl hP1 hz1 hS1 (by omega) (by omega))
  rcases hlink with hlink | hlink
  · exact va_runI (As := av.map (cv G)) (b := G.z + a) (Ts := gtbl) (own := cn M.1) (index := n) ⟨hx, hb, hml, hB.own, hts⟩ hK ⟨callB_of (R := R) _ hts hgood rfl rfl rfl (hts _ m2) (hts _ hlink) m7 ⟨by show d - 1 + 1 ≤ _; omega, by show 8 + (N.ml + 11) + 64 * (d - 1) ≤ _; omega⟩, m10 h0, hts _ (m4 (by omega))⟩ ⟨rep_blind _, fun U hU hW => ⟨rfl, rep_pre hB hP hz U hU hW⟩⟩ rfl hn hl.1.1 hstk (lv_room (by rw [szs_cv]; exact hsz)) hd ⟨by omega, by omega⟩
  · exact va_runIN (As := av.map (cv G)) (b := G.z + a) (Ts := gtbl) (own := cn M.1) (index := n) ⟨hx, hb, hml, hB.own, hts⟩ hK ⟨va_cnB (R := R) _ hts hgood rfl rfl rfl (hB.xw.1 _ hlink) (hts _ m2) m7 ⟨by show d - 1 + 1 ≤ _; omega, by show 8 + (N.ml + 11) + 64 * (d - 1) ≤ _; omega⟩, m10 h0, hts _ (m4 (by omega))⟩ ⟨rep_blind _, fun U hU hW => ⟨rfl, rep_pre hB hP hz U hU hW⟩⟩ rfl hn hl.1.1 hstk (lv_room (by rw [szs_cv]; exact hsz)) hd ⟨by omega, by omega⟩
end SND5
end
section
section SND6
variable {G : Gx} {d : Nat} {M : MI} {MC MS : Nat} {p : Program} {e : Env} {R : Room} {s : State} {m : MethodId} {args : Array Value} {below : List Frame} {meth : Method} {c : Code} {Qs : State → Prop} {Qa : Option Value → List Sh → Mem → Prop} {pc : Nat} {loc : XV} {st : List Value} {lay : List Sh} {μ : Mem} {bc bs : Nat}
theorem set_q (cA : ClassId) (n : Nat) (f : Nat → Option Nat) (i x : Nat) : (vp_cell cA (n, .inr (.inr (.inr (.inr f))))).setSlot i (.ref x) = vp_cell cA (n, .inr (.inr (.inr (.inr (va_up f i (some x)))))) := by
  rw [vp_cell_q, vp_cell_q, arrV_store]
  refine congrArg (arrV cA n) (funext fun q => ?_)
  by_cases hq : q = i
  · subst hq
    simp [updV, va_up, va_rf]
  · simp [updV, va_up, hq]
theorem s_aastore (hB : Bd G d M MC MS p R s m args meth c) (hd : decode M.cd pc = .ok (.aastore, 1)) (h : rst st (fun x i a r => match lay[a]?, lay[x]? with
      | some sh, some sx => sh.1 = 5 ∧ sx.1 = 13 ∧ vp_in i sh.2.1 ∧ (match sh.2.2 with
        | some b :: some k :: _ => i.toNatClampNeg = k ∧ x = b + 5 * k ∧ VZ G M MC MS p e R s m args below meth c Qs (pc + 1) loc r (lay.set a (5, sh.2.1, [some b, some (k + 1)])) μ bc bs
        | _ => i.toNatClampNeg = 0 ∧ sh.2.2 = [] ∧ VZ G M MC MS p e R s m args below meth c Qs (pc + 1) loc r (lay.set a (5, sh.2.1, [some x, some 1])) μ bc bs)
      | _, _ => False)) : VZ G M MC MS p e R s m args below meth c Qs pc loc st lay μ bc bs := by
  unfold rst at h
  split at h
  · rename_i x i a r
    split at h
    · rename_i sh sx hsh hsx
      obtain ⟨h1, h2, h3, h4⟩ := h
      have hal : a < lay.length := (List.getElem?_eq_some_iff.mp hsh).1
      have go : ∀ rs', (∀ q, grd G 5 rs' q = va_up (grd G 5 sh.2.2) i.toNatClampNeg (some (G.z + x)) q) → VZ G M MC MS p e R s m args below meth c Qs (pc + 1) loc r (lay.set a (5, sh.2.1, rs')) μ bc bs → VZ G M MC MS p e R s m args below meth c Qs pc loc (.ref x :: .int i :: .ref a :: r) lay μ bc bs := by
        intro rs' hrs k H locs cells slots ls hl hP hz hS hc hs
        have he := wl_get (G := G) (μ := μ) hsh
        rw [ent_5 h1] at he
        have hx := wl_get (G := G) (μ := μ) hsx
        rw [ent_obj (ci := 7) h2] at hx
        have hlt : i.toNatClampNeg < sh.2.1 := Nat.not_le.mp fun q => h3 (Or.inr q)
        have h0 : ¬ i < 0 := fun q => h3 (Or.inl q)
        obtain ⟨r', hr', cellV, g1, g2, g3, -⟩ := hP x _ hx
        have hcls := (hB.K.1 7 _ (vwCl_at 7 (by decide))).2
        obtain ⟨kA, comp, k1, k2, k3, -⟩ := (hB.K.2 5 _ rfl).2
        have hcomp : comp = G.D.1 7 := Option.some.inj (k3.symm.trans hcls.1)
        subst hcomp
        obtain ⟨kC, hkC, -⟩ := hcls.2
        refine W.aast hB.1 hB.2.1 (hP a _ he) (fun q h => by cases h) (fun h => by cases h) k1 k2 rfl hkC ⟨h0, by show _ < (arrV _ _ _).slots.size; rw [arrV_size]; exact hlt⟩ g1 (fun q h => by rw [g3] at h; cases h) (by rw [g2]; exact hkC) (by rw [g2]; exact va_assign hcls) rfl rfl hd fun H1 e1 e2 e3 => ?_
        refine k H1 _ cells slots ls hl (up_P hP (fun b s hb hs => ⟨by rw [List.getElem?_set_ne (Ne.symm hb)] at hs; exact hs, rfl⟩) (fun s hs => ?_) e3) (by rw [e2, hz, List.length_set]) (hS.put e2 e3 (Nat.le_add_right _ _)) hc hs
        rw [List.getElem?_set_self hal] at hs
        cases hs
        rw [ent_5 rfl]
        show H1[G.z + a]? = some (vp_cell _ _)
        rw [e1]
        refine congrArg some ((set_q _ _ _ _ _).trans ?_)
        rw [funext hrs]
      split at h4
      · rename_i b k rs hrs
        obtain ⟨k1, k2, k3⟩ := h4
        refine go _ (fun q => ?_) k3
        rw [hrs, k1, k2]
        unfold grd va_up
        by_cases e1 : q = k
        · subst e1; simp
        · rw [if_neg e1]
          dsimp only
          by_cases e2 : q < k
          · rw [if_pos e2, if_pos (by omega)]
          · rw [if_neg e2, if_neg (by omega)]
      · obtain ⟨k1, k2, k3⟩ := h4
        refine go _ (fun q => ?_) k3
        rw [k2, k1]
        unfold grd va_up
        by_cases e1 : q = 0
        · subst e1; simp
        · rw [if_neg e1]
          dsimp only
          rw [if_neg (by omega)]
    · exact h.elim
  · exact h.elim
theorem jw_cl_scale : Cond.classLink "BellRibbons$Payments" 9 "BellRibbons$Scale" ∈ gtbl := by
  have h : nTab.all (fun q => !(q.1 == 5 && q.2.1 == 9) || gat q.2.2.2.1 (.classLink "BellRibbons$Payments" 9 "BellRibbons$Scale")) = true ∧ nTab.any (fun q => q.1 == 5 && q.2.1 == 9) = true := by decide +kernel
  obtain ⟨q, h1, h2⟩ := List.any_eq_true.mp h.2
  have h3 := List.all_eq_true.mp h.1 q h1
  rw [h2] at h3
  exact gat_mem (by simpa using h3)
theorem s_anewarray (hB : Bd G d M MC MS p R s m args meth c) {n : Nat} (hd : decode M.cd pc = .ok (.anewarray n, 3)) (h : p1 st (fun k r => (inf M).1 = 5 ∧ n = 9 ∧ ¬ k < 0 ∧ k.toNatClampNeg ≤ 60000000 ∧ 1 ≤ bc ∧ k.toNatClampNeg ≤ bs ∧ VZ G M MC MS p e R s m args below meth c Qs (pc + 3) loc (.ref lay.length :: r) (lay ++ [(5, k.toNatClampNeg, [])]) (clr μ lay.length) (bc - 1) (bs - k.toNatClampNeg))) : VZ G M MC MS p e R s m args below meth c Qs pc loc st lay μ bc bs := by
  unfold p1 at h
  split at h
  · rename_i k r
    obtain ⟨h1, h2, h3, h4, h5, h6, h7⟩ := h
    subst h2
    intro H locs cells slots ls hl hP hz hS hc hs
    obtain ⟨-, -, hml, -, -, -, -, -, -, -, hfr, hlo, hRc, hRs, -⟩ := id hB
    have how := hB.own
    rw [show M.1 = 5 from h1] at how
    refine W.anew hB.1 hB.2.1 how (hB.ts _ jw_cl_scale) (va_AO.use hB.xw.2.1) rfl hd rfl h3 (by omega) (by omega) (by omega) fun cA kA comp f1 f2 f3 f4 => ?_
    obtain ⟨kA2, comp2, -, -, -, g4⟩ := (hB.K.2 5 _ rfl).2
    have hT : G.T 5 = cA := Option.some.inj (g4.symm.trans f1)
    have o1 : ∀ q : Nat, q < H.size → (H.push ({ cls := cA, slots := Array.replicate k.toNatClampNeg .null, vm := .none } : Cell))[q]? = H[q]? := fun q hq => by rw [Array.getElem?_push, if_neg (Nat.ne_of_lt hq)]
    rw [hz]
    refine h7 _ locs (cells + 1) (slots + k.toNatClampNeg) ls hl (app_P hP hz clr_ent' ?_ o1) (by rw [Array.size_push, hz]; simp; omega) (hS.grow (by rw [Array.size_push]; omega) o1) (by omega) (by omega)
    rw [ent_5 rfl]
    show (H.push _)[G.z + lay.length]? = some (vp_cell _ _)
    rw [← hz, Array.getElem?_push_size, vp_cell_q, ← hT]
    refine congrArg some (Eq.trans ?_ (arrV_new _ _ _))
    rfl
  · exact h.elim
/-- the making of an array of arrays -/
theorem s_mna (hB : Bd G d M MC MS p R s m args meth c) {n k : Nat} (hd : decode M.cd pc = .ok (.multianewarray n k, 4)) (h : p2 st (fun c' w r => ((inf M).1, n) ∈ [(5, 21), (4, 21), (0, 9)] ∧ k = 2 ∧ ¬ c' < 0 ∧ ¬ w < 0 ∧ c'.toNatClampNeg ≤ 60000000 ∧ w.toNatClampNeg ≤ 60000000 ∧ 1 + c'.toNatClampNeg ≤ bc ∧ c'.toNatClampNeg + c'.toNatClampNeg * w.toNatClampNeg ≤ bs ∧ VZ G M MC MS p e R s m args below meth c Qs (pc + 4) loc (.ref lay.length :: r) (lay ++ (4, c'.toNatClampNeg, [some (lay.length + 1), some c'.toNatClampNeg]) :: List.replicate c'.toNatClampNeg (0, w.toNatClampNeg, [])) (clrN μ lay.length (1 + c'.toNatClampNeg)) (bc - (1 + c'.toNatClampNeg)) (bs - (c'.toNatClampNeg + c'.toNatClampNeg * w.toNatClampNeg)))) : VZ G M MC MS p e R s m args below meth c Qs pc loc st lay μ bc bs := by
  sorry
end SND6
end
section
section SND7
variable {G : Gx} {d : Nat} {M : MI} {MC MS : Nat} {p : Program} {e : Env} {R : Room} {s : State} {m : MethodId} {args : Array Value} {below : List Frame} {meth : Method} {c : Code} {Qs : State → Prop} {Qa : Option Value → List Sh → Mem → Prop}
set_option maxHeartbeats 4000000 in
/-- AN INSTRUCTION IS SOUND -/
theorem ex_sound (hB : Bd G d M MC MS p R s m args meth c) (hR : RetOK G M MC MS p e R s m args below meth c Qs Qa) (hin2 : (inf M).2.2.2.1 = 2 → meth.name = "<init>") {pc : Nat} {loc : XV} {st : List Value} {lay : List Sh} {μ : Mem} {bc bs : Nat} {i : Instr} {len t : Nat} {v : Int32} (hdc : dcd M pc = some (i, len, t, v))
    (h : exec1 G d M Qa i len t v pc loc st lay μ bc bs (VZ G M MC MS p e R s m args below meth c Qs)) : VZ G M MC MS p e R s m args below meth c Qs pc loc st lay μ bc bs := by
  unfold dcd at hdc
  split at hdc
  · rename_i i0 len0 hd
    split at hdc
    · rename_i htok
      simp only [Option.some.injEq, Prod.mk.injEq] at hdc
      obtain ⟨rfl, rfl, rfl, rfl⟩ := hdc
      obtain ⟨htk, hl⟩ := (Bool.and_eq_true _ _).mp htok
      rw [Bool.or_eq_true, beq_iff_eq, beq_iff_eq] at hl
      cases i0 <;> simp only [nrm, exec1, tgo, cvl] at h <;> first
        | exact h.elim
        | skip
      all_goals first
        | (have hl2 := hl.resolve_left (Nat.succ_ne_zero _); have hl3 := hl2.symm; dsimp only [lenOf] at hl3; subst hl3)
        | skip
      all_goals first
        | exact s_iadd hB hd h | exact s_isub hB hd h | exact s_imul hB hd h | exact s_idiv hB hd h | exact s_irem hB hd h | exact s_ineg hB hd h | exact s_ishl hB hd h | exact s_ishr hB hd h | exact s_iushr hB hd h | exact s_iand hB hd h | exact s_ior hB hd h | exact s_ixor hB hd h
        | exact s_ladd hB hd h | exact s_lmul hB hd h | exact s_lor hB hd h | exact s_land hB hd h | exact s_lcmp hB hd h | exact s_lshl hB hd h | exact s_lshr hB hd h | exact s_i2l hB hd h | exact s_i2b hB hd h
        | exact s_iload hB hd h | exact s_iload_n hB hd h | exact s_lload hB hd h | exact s_lload_n hB hd h | exact s_aload hB hd h | exact s_aload_n hB hd h
        | exact s_istore hB hd h | exact s_istore_n hB hd h | exact s_lstore hB hd h | exact s_lstore_n hB hd h | exact s_astore hB hd h | exact s_astore_n hB hd h | exact s_iinc hB hd h
        | exact s_iconst hB hd h | exact s_bipush hB hd h | exact s_sipush hB hd h | exact s_lconst hB hd h | exact s_ldc hB hd h | exact s_ldc_w hB hd h | exact s_ldc2 hB hd h
        | exact s_dup hB hd h | exact s_dup2 hB hd h | exact s_pop hB hd h
        | exact s_goto hB (of_decide_eq_true htk) hd h | exact s_icmp hB (of_decide_eq_true htk) hd h | exact s_if hB (of_decide_eq_true htk) hd h | exact s_ifnull hB (of_decide_eq_true htk) hd h | exact s_ifnonnull hB (of_decide_eq_true htk) hd h
        | exact s_tsw hB htk hd h | exact s_lsw hB htk hd h
        | exact s_getfield hB hd h | exact s_putfield hB hd hin2 h
        | exact s_iaload hB hd h | exact s_baload hB hd h | exact s_laload hB hd h | exact s_aaload hB hd h | exact s_alen hB hd h
        | exact s_iastore hB hd h | exact s_bastore hB hd h | exact s_lastore hB hd h | exact s_aastore hB hd h
        | exact s_new hB hd h | exact s_newarray hB hd h | exact s_anewarray hB hd h | exact s_mna hB hd h
        | skip
      · -- invokespecial
        split at h
        · rename_i hj
          exact s_oinit hB hd hj h
        · exact h.elim
        · split at h
          · rename_i N hN
            exact s_special hB hd hN h.1 h.2.1 h.2.2
          · exact h.elim
      · -- invokestatic
        split at h
        · rename_i hj
          exact s_max hB hd hj h
        · rename_i hj
          exact s_min hB hd hj h
        · rename_i hj
          exact s_abs hB hd hj h
        · rename_i hj
          exact s_copy hB hd hj h
        · exact h.elim
        · split at h
          · rename_i N hN
            exact s_vstatic hB hd hN h.1 h.2.1 h.2.2
          · exact h.elim
      · -- invokevirtual
        split at h
        · rename_i N hN
          exact s_virtual hB hd hN h.1 h.2.1 h.2.2
        · exact h.elim
      · -- ireturn
        split at h
        · rename_i x
          intro H locs cells slots ls hl hP hz hS hc hs
          exact hR (some (.int x)) lay μ H locs cells slots ls pc h.2 ⟨hd, h.1⟩ hP hz hS (by omega) (by omega)
        · exact h.elim
      · -- lreturn
        split at h
        · rename_i x
          intro H locs cells slots ls hl hP hz hS hc hs
          exact hR (some (.long x)) lay μ H locs cells slots ls pc h.2 ⟨hd, h.1⟩ hP hz hS (by omega) (by omega)
        · exact h.elim
      · -- return
        split at h
        · intro H locs cells slots ls hl hP hz hS hc hs
          exact hR none lay μ H locs cells slots ls pc h.2 ⟨hd, h.1⟩ hP hz hS (by omega) (by omega)
        · exact h.elim
    · cases hdc
  · cases hdc
end SND7
end
section
theorem p1_m {st : List Value} {f g : Int32 → List Value → Prop} (h : ∀ x r, f x r → g x r) : p1 st f → p1 st g := by
  unfold p1; split <;> first | exact h _ _ | exact id
theorem p2_m {st : List Value} {f g : Int32 → Int32 → List Value → Prop} (h : ∀ x y r, f x y r → g x y r) : p2 st f → p2 st g := by
  unfold p2; split <;> first | exact h _ _ _ | exact id
theorem q1_m {st : List Value} {f g : Int64 → List Value → Prop} (h : ∀ x r, f x r → g x r) : q1 st f → q1 st g := by
  unfold q1; split <;> first | exact h _ _ | exact id
theorem q2_m {st : List Value} {f g : Int64 → Int64 → List Value → Prop} (h : ∀ x y r, f x y r → g x y r) : q2 st f → q2 st g := by
  unfold q2; split <;> first | exact h _ _ _ | exact id
theorem qi_m {st : List Value} {f g : Int64 → Int32 → List Value → Prop} (h : ∀ x y r, f x y r → g x y r) : qi st f → qi st g := by
  unfold qi; split <;> first | exact h _ _ _ | exact id
theorem pr_m {st : List Value} {f g : Nat → List Value → Prop} (h : ∀ x r, f x r → g x r) : pr st f → pr st g := by
  unfold pr; split <;> first | exact h _ _ | exact id
theorem pa_m {st : List Value} {f f' : Int32 → Nat → List Value → Prop} {g g' : Int32 → List Value → Prop} (h : ∀ i a r, f i a r → f' i a r) (h2 : ∀ i r, g i r → g' i r) : pa st f g → pa st f' g' := by
  unfold pa; split <;> first | exact h _ _ _ | exact h2 _ _ | exact id
theorem pst_m {st : List Value} {f g : Int32 → Int32 → Nat → List Value → Prop} (h : ∀ x i a r, f x i a r → g x i a r) : pst st f → pst st g := by
  unfold pst; split <;> first | exact h _ _ _ _ | exact id
theorem qst_m {st : List Value} {f g : Int64 → Int32 → Nat → List Value → Prop} (h : ∀ x i a r, f x i a r → g x i a r) : qst st f → qst st g := by
  unfold qst; split <;> first | exact h _ _ _ _ | exact id
theorem rst_m {st : List Value} {f g : Nat → Int32 → Nat → List Value → Prop} (h : ∀ x i a r, f x i a r → g x i a r) : rst st f → rst st g := by
  unfold rst; split <;> first | exact h _ _ _ _ | exact id
theorem pac_m {st : List Value} {f g : Int32 → Int32 → Nat → Int32 → Nat → List Value → Prop} (h : ∀ n dp a sp a0 r, f n dp a sp a0 r → g n dp a sp a0 r) : pac st f → pac st g := by
  unfold pac; split <;> first | exact h _ _ _ _ _ _ | exact id
theorem brI_m {c : ClassFile.Cond} {x y : Int32} {a b a' b' : Prop} (h : a → a') (h2 : b → b') : brI c x y a b → brI c x y a' b' := by
  unfold brI; split <;> exact fun q => ⟨fun z => h (q.1 z), fun z => h2 (q.2 z)⟩
theorem swt_m {x : Int32} {pc : Nat} {f g : Nat → Prop} (h : ∀ t, f t → g t) : ∀ (lo : Int) (os : List Int), swt x pc lo os f → swt x pc lo os g
  | _, [], _ => trivial
  | lo, o :: r, q => ⟨fun z => h _ (q.1 z), swt_m h (lo + 1) r q.2⟩
theorem swl_m {x : Int32} {pc : Nat} {df : Int} {f g : Nat → Prop} (h : ∀ t, f t → g t) : ∀ (os : List (Int × Int)), swl x pc df os f → swl x pc df os g
  | [], q => h _ q
  | o :: r, q => ⟨fun z => h _ (q.1 z), fun z => swl_m h r (q.2 z)⟩
theorem gfld_m {kd : Nat} {sh : Sh} {a : Nat} {μ : Mem} {k : Nat} {f g : Value → Prop} (h : ∀ v, f v → g v) : gfld kd sh a μ k f → gfld kd sh a μ k g := by
  unfold gfld; split <;> exact h _
theorem pfld_m {kd : Nat} {st : List Value} {f g : Value → Nat → List Value → Prop} (h : ∀ v a r, f v a r → g v a r) : pfld kd st f → pfld kd st g := by
  unfold pfld; split <;> first | exact fun q => ⟨q.1, h _ _ _ q.2⟩ | exact id
theorem sfld_m {lay : List Sh} {μ : Mem} {sh : Sh} {a k : Nat} {v : Value} {f g : List Sh → Mem → Prop} (h : ∀ l m, f l m → g l m) : sfld lay μ sh a k v f → sfld lay μ sh a k v g := by
  unfold sfld; split <;> first | exact h _ _ | exact fun q => ⟨q.1, h _ _ q.2⟩ | exact id
theorem pargs_m {f g : List Value → List Value → Prop} (h : ∀ a r, f a r → g a r) : ∀ (n : Nat) (acc st : List Value), pargs n acc st f → pargs n acc st g
  | 0, _, _ => h _ _
  | n + 1, acc, v :: st => pargs_m h n (v :: acc) st
  | _ + 1, _, [] => id
theorem KQ_m {G : Gx} {Q Q' : Option Value → List Sh → Mem → Prop} {a : Array Value} {st t : State} {o : Outcome} (h : ∀ v l m, Q v l m → Q' v l m) : ∀ rk, KQ G rk Q a st o t → KQ G rk Q' a st o t
  | 0, ⟨⟨u, g1, g2, g3⟩, g4⟩ => ⟨⟨u, g1, h _ _ _ g2, g3⟩, g4⟩
  | 1, ⟨⟨r, u, g1, g2, g3⟩, g4⟩ => ⟨⟨r, u, g1, h _ _ _ g2, g3⟩, g4⟩
  | 2, ⟨⟨r, u, g1, g2, g3⟩, g4⟩ => ⟨⟨r, u, g1, h _ _ _ g2, g3⟩, g4⟩
  | _ + 3, ⟨⟨r, u, g1, g2, g3⟩, g4⟩ => ⟨⟨r, u, g1, h _ _ _ g2, g3⟩, g4⟩
theorem KC_m {G : Gx} {d : Nat} {N : MI} {av : List Value} {lay : List Sh} {μ : Mem} {bc bs : Nat} {Q Q' : Option Value → List Sh → Mem → Nat → Nat → Prop} (h : ∀ v l m c s, Q v l m c s → Q' v l m c s) : KC G d N av lay μ bc bs Q → KC G d N av lay μ bc bs Q' := by
  rintro ⟨c, s, h1, h2, h3⟩
  refine ⟨c, s, h1, h2, ?_⟩
  unfold Kx Met MetFree at h3 ⊢
  intro p e a1 a2 a3 st m args below a4 a5 a6 a7
  obtain ⟨n, o, b1, b2, b3, b4, b5⟩ := h3 p e a1 a2 a3 st m args below a4 a5 a6 a7
  refine ⟨n, o, b1, b2, b3, ?_, b5⟩
  exact KQ_m (fun _ _ _ => h _ _ _ _ _) _ b4
set_option maxHeartbeats 4000000 in
theorem exec1_m {G : Gx} {d : Nat} {M : MI} {Qa : Option Value → List Sh → Mem → Prop} {i : Instr} {len t : Nat} {v : Int32} {pc : Nat} {loc : XV} {st : List Value} {lay : List Sh} {μ : Mem} {bc bs : Nat} {k k' : Kt} (hk : ∀ pc loc st lay μ bc bs, k pc loc st lay μ bc bs → k' pc loc st lay μ bc bs) :
    exec1 G d M Qa i len t v pc loc st lay μ bc bs k → exec1 G d M Qa i len t v pc loc st lay μ bc bs k' := by
  cases i <;> simp only [exec1] <;> first
    | exact id
    | exact hk _ _ _ _ _ _ _
    | exact p2_m (fun _ _ _ => hk _ _ _ _ _ _ _)
    | exact p2_m (fun _ _ _ q => ⟨q.1, hk _ _ _ _ _ _ _ q.2⟩)
    | exact p1_m (fun _ _ => hk _ _ _ _ _ _ _)
    | exact q2_m (fun _ _ _ => hk _ _ _ _ _ _ _)
    | exact qi_m (fun _ _ _ => hk _ _ _ _ _ _ _)
    | exact p2_m (fun _ _ _ => brI_m (hk _ _ _ _ _ _ _) (hk _ _ _ _ _ _ _))
    | exact p1_m (fun _ _ => brI_m (hk _ _ _ _ _ _ _) (hk _ _ _ _ _ _ _))
    | exact p1_m (fun _ _ q => ⟨fun z => hk _ _ _ _ _ _ _ (q.1 z), q.2.1, swt_m (fun _ => hk _ _ _ _ _ _ _) _ _ q.2.2⟩)
    | exact p1_m (fun _ _ => swl_m (fun _ => hk _ _ _ _ _ _ _) _)
    | (split <;> first | exact hk _ _ _ _ _ _ _ | exact id | exact fun q => ⟨q.1, hk _ _ _ _ _ _ _ q.2⟩ | exact fun q => ⟨q.1, q.2.1, hk _ _ _ _ _ _ _ q.2.2⟩)
    | (refine p1_m (fun _ _ => ?_); split <;> first | exact hk _ _ _ _ _ _ _ | exact id)
    | (refine q1_m (fun _ _ => ?_); split <;> first | exact hk _ _ _ _ _ _ _ | exact id)
    | (refine pr_m (fun _ _ => ?_); split <;> first | exact hk _ _ _ _ _ _ _ | exact id)
    | (split
       · split <;> first | exact hk _ _ _ _ _ _ _ | exact id
       · exact id)
    | (refine pa_m (fun _ _ _ => ?_) (fun _ _ => ?_)
       · split <;> first | exact fun q => ⟨q.1, q.2.1, hk _ _ _ _ _ _ _ q.2.2⟩ | exact id
       · first | exact id | exact fun q => ⟨q.1, q.2.1, hk _ _ _ _ _ _ _ q.2.2⟩)
    | (refine pst_m (fun _ _ _ _ => ?_); split <;> first | exact fun q => ⟨q.1, q.2.1, hk _ _ _ _ _ _ _ q.2.2⟩ | exact id)
    | (refine qst_m (fun _ _ _ _ => ?_); split <;> first | exact fun q => ⟨q.1, q.2.1, hk _ _ _ _ _ _ _ q.2.2⟩ | exact id)
    | (refine pst_m (fun _ _ _ _ => ?_); split <;> first | exact fun q => ⟨q.1, q.2.elim (fun z => Or.inl ⟨z.1, hk _ _ _ _ _ _ _ z.2⟩) (fun z => Or.inr ⟨z.1, hk _ _ _ _ _ _ _ z.2⟩)⟩ | exact id)
    | (refine pa_m (fun _ _ _ => ?_) (fun _ _ => id)
       · split
         · refine fun q => ⟨q.1, ?_⟩
           have q2 := q.2
           revert q2
           split <;> first | exact fun z => ⟨z.1, z.2.elim (fun z => Or.inl ⟨z.1, hk _ _ _ _ _ _ _ z.2⟩) (fun z => Or.inr ⟨z.1, hk _ _ _ _ _ _ _ z.2⟩)⟩ | exact id
         · exact id)
    | exact p1_m (fun _ _ q => ⟨q.1, q.2.1, q.2.2.1, q.2.2.2.1, q.2.2.2.2.1, hk _ _ _ _ _ _ _ q.2.2.2.2.2⟩)
    | exact p1_m (fun _ _ q => ⟨q.1, q.2.1, q.2.2.1, q.2.2.2.1, q.2.2.2.2.1, q.2.2.2.2.2.1, hk _ _ _ _ _ _ _ q.2.2.2.2.2.2⟩)
    | exact p2_m (fun _ _ _ q => ⟨q.1, q.2.1, q.2.2.1, q.2.2.2.1, q.2.2.2.2.1, q.2.2.2.2.2.1, q.2.2.2.2.2.2.1, q.2.2.2.2.2.2.2.1, hk _ _ _ _ _ _ _ q.2.2.2.2.2.2.2.2⟩)
    | (split
       · refine pr_m (fun _ _ => ?_); split <;> first | exact fun q => ⟨q.1, gfld_m (fun _ => hk _ _ _ _ _ _ _) q.2⟩ | exact id
       · exact id)
    | (split
       · refine pfld_m (fun _ _ _ => ?_); split <;> first | exact fun q => ⟨q.1, q.2.1, sfld_m (fun _ _ => hk _ _ _ _ _ _ _) q.2.2⟩ | exact id
       · exact id)
    | (refine rst_m (fun _ _ _ _ => ?_)
       split
       · refine fun q => ⟨q.1, q.2.1, q.2.2.1, ?_⟩
         have q2 := q.2.2.2
         revert q2
         split <;> exact fun z => ⟨z.1, z.2.1, hk _ _ _ _ _ _ _ z.2.2⟩
       · exact id)
    | (split
       · split <;> first | exact fun q => ⟨q.1, hk _ _ _ _ _ _ _ q.2⟩ | exact id
       · exact fun q => ⟨q.1, hk _ _ _ _ _ _ _ q.2⟩
       · exact id)
    | (split
       · exact fun q => ⟨q.1, q.2.1, pargs_m (fun _ _ z => ⟨z.1, z.2.1, KC_m (fun _ _ _ _ _ => hk _ _ _ _ _ _ _) z.2.2⟩) _ _ _ q.2.2⟩
       · exact id)
    | (split
       · exact pr_m (fun _ _ q => ⟨q.1, q.2.1, hk _ _ _ _ _ _ _ q.2.2⟩)
       · exact id
       · split
         · exact fun q => ⟨q.1, q.2.1, pargs_m (fun _ _ z => ⟨z.1, z.2.1, KC_m (fun _ _ _ _ _ => hk _ _ _ _ _ _ _) z.2.2⟩) _ _ _ q.2.2⟩
         · exact id)
    | (split
       · exact p2_m (fun _ _ _ q => ⟨q.1, q.2.1, hk _ _ _ _ _ _ _ q.2.2⟩)
       · exact p2_m (fun _ _ _ q => ⟨q.1, q.2.1, hk _ _ _ _ _ _ _ q.2.2⟩)
       · exact p1_m (fun _ _ q => ⟨q.1, q.2.1, hk _ _ _ _ _ _ _ q.2.2⟩)
       · refine pac_m (fun _ _ _ _ _ _ q => ⟨q.1, q.2.1, q.2.2.1, q.2.2.2.1, q.2.2.2.2.1, ?_⟩)
         have q2 := q.2.2.2.2.2
         revert q2
         split <;> first | exact fun z => ⟨z.1, z.2.1, z.2.2.1, z.2.2.2.1, hk _ _ _ _ _ _ _ z.2.2.2.2⟩ | exact id
       · exact id
       · split
         · exact fun q => ⟨q.1, q.2.1, pargs_m (fun _ _ z => ⟨z.1, KC_m (fun _ _ _ _ _ => hk _ _ _ _ _ _ _) z.2⟩) _ _ _ q.2.2⟩
         · exact id)
end
section
section SND8
variable {G : Gx} {d : Nat} {M : MI} {MC MS : Nat} {p : Program} {e : Env} {R : Room} {s : State} {m : MethodId} {args : Array Value} {below : List Frame} {meth : Method} {c : Code} {Qs : State → Prop} {Qa : Option Value → List Sh → Mem → Prop}
/-- Z holds wherever a stretch of code, walked, comes to places where it is to hold -/
def Closed (G : Gx) (d : Nat) (M : MI) (Qa : Option Value → List Sh → Mem → Prop) (Z : Kt) : Prop := ∀ (n : Nat) (stops : List Nat) (pc : Nat) (loc : XV) (st : List Value) (lay : List Sh) (μ : Mem) (bc bs : Nat), wp G d M Qa Z stops n pc loc st lay μ bc bs → Z pc loc st lay μ bc bs
theorem VZ_closed (hB : Bd G d M MC MS p R s m args meth c) (hR : RetOK G M MC MS p e R s m args below meth c Qs Qa) (hin2 : (inf M).2.2.2.1 = 2 → meth.name = "<init>") : Closed G d M Qa (VZ G M MC MS p e R s m args below meth c Qs) := by
  intro n stops
  induction n with
  | zero => intro pc loc st lay μ bc bs h; exact h
  | succ n ih =>
    intro pc loc st lay μ bc bs h
    unfold wp at h
    split at h
    · rename_i i len t v hd
      refine ex_sound hB hR hin2 hd (exec1_m (fun pc loc st lay μ bc bs q => ?_) h)
      cases hs : stops.elem pc with
      | true => rw [hs] at q; exact q
      | false => rw [hs] at q; exact ih _ _ _ _ _ _ _ q
    · exact h.elim
/-- the locals at a method's start -/
def loc0 (av : List Value) (n : Nat) : XV := (av.flatMap (fun v => if v.category = 2 then [some v, none] else [some v])) ++ List.replicate (n - (av.flatMap (fun v => if v.category = 2 then [some v, none] else [some v])).length) none
theorem lv_args_mem (G : Gx) : ∀ (av : List Value) (i j : Nat) (v : Value), (av.flatMap (fun v => if v.category = 2 then [some v, none] else [some v]))[j]? = some (some v) → (i + j, cv G v) ∈ lv_args i (av.map (cv G))
  | [], _, _, _, h => by simp at h
  | a :: r, i, j, v, h => by
    simp only [List.flatMap_cons] at h
    simp only [List.map_cons, lv_args, cv_cat]
    by_cases hc : a.category = 2
    · rw [if_pos hc] at h ⊢
      match j, h with
      | 0, h =>
        simp at h
        subst h
        exact List.mem_cons_self
      | 1, h => simp at h
      | j + 2, h =>
        have := lv_args_mem G r (i + 2) j v (by simpa using h)
        rw [show i + (j + 2) = i + 2 + j by omega]
        exact List.mem_cons_of_mem _ this
    · rw [if_neg hc] at h ⊢
      match j, h with
      | 0, h =>
        simp at h
        subst h
        exact List.mem_cons_self
      | j + 1, h =>
        have := lv_args_mem G r (i + 1) j v (by simpa using h)
        rw [show i + (j + 1) = i + 1 + j by omega]
        exact List.mem_cons_of_mem _ this
theorem lg_len (G : Gx) : ∀ av : List Value, (lg_sl (av.map (cv G))).length = (av.flatMap (fun v => if v.category = 2 then [some v, none] else [some v])).length
  | [] => rfl
  | a :: r => by
    have ih := lg_len G r
    unfold lg_sl at ih ⊢
    simp only [List.map_cons, List.flatMap_cons, List.length_append, cv_cat, ih]
    split <;> rfl
theorem loc0_ok {av : List Value} {n : Nat} (h : (av.flatMap (fun v => if v.category = 2 then [some v, none] else [some v])).length ≤ n) : Lok G ((lg_sl (av.map (cv G)) ++ List.replicate (n - (lg_sl (av.map (cv G))).length) Slot.unset).toArray) n (loc0 av n) := by
  have h1 := lv_entry (av.map (cv G)) (n := n) (by rw [lg_len]; exact h)
  refine ⟨⟨h1.1, h1.2.1, fun q hq => h1.2.2 q ?_⟩, by unfold loc0; rw [List.length_append, List.length_replicate]; omega⟩
  obtain ⟨v, hv1, hv2⟩ := lvl_mem.mp hq
  unfold loc0 at hv1
  by_cases hl : q.1 < (av.flatMap (fun v => if v.category = 2 then [some v, none] else [some v])).length
  · rw [List.getElem?_append_left hl] at hv1
    have := lv_args_mem G av 0 q.1 v hv1
    rw [Nat.zero_add] at this
    have e : q = (q.1, cv G v) := Prod.ext rfl hv2
    rw [e]
    exact this
  · rw [List.getElem?_append_right (by omega), List.getElem?_replicate] at hv1
    split at hv1 <;> simp at hv1
/-- A CONTRACT OUT OF A WALK -/
theorem KC_intro {N : MI} {av : List Value} {lay : List Sh} {μ : Mem} {bc bs : Nat} {Q : Option Value → List Sh → Mem → Nat → Nat → Prop} (cc ss : Nat) (hm : mokD N) (h99 : N.1 ≠ 99) (h9 : (inf N).2.1 ≠ 9) (hc : cc ≤ bc) (hs : ss ≤ bs) (hlen : (av.flatMap (fun v => if v.category = 2 then [some v, none] else [some v])).length ≤ N.ml)
    (h : ∀ Z : Kt, Closed G d N (fun r lay' μ' => Q r lay' μ' (bc - cc) (bs - ss)) Z → Z 0 (loc0 av N.ml) [] lay μ cc ss) : KC G d N av lay μ bc bs Q := by
  refine ⟨cc, ss, hc, hs, ?_⟩
  obtain ⟨m1, m2, m3, m4, m5, m6, m7, m8, m9, m10, m11, m12⟩ := mok_facts hm
  unfold Kx
  refine Met.ofW (cc := N.cd) (maxL := N.ml) (ret := N.rt) m6 rfl ?_
  intro p e s m args below meth c s₁ B hml hv
  obtain ⟨hargs, hP, hz, hK, hXW⟩ := hv
  have hts : ∀ w ∈ gtbl, w.before args s = true := fun w hw => atoms_spec (ws := .code N.yn N.cd N.ml N.rt :: gtbl) B.pre w (List.mem_cons_of_mem _ hw)
  have hB : Bd G d N cc ss p (headSpec (.code N.yn N.cd N.ml N.rt :: gtbl) { frames := d, cells := cc, slots := ss, locals := 64 * d }).room s m args meth c :=
    ⟨B.exec, B.bytes, hml, findClass_of_methodNamed B.named, hts, hK, hXW, fun hn => (name_of_methodNamed B.named B.method).1.trans hn, m9, by rw [hz]; omega, Nat.le_refl _, Nat.le_refl _, rfl, rfl, fun q => absurd q h99⟩
  have hret : RetOK G N cc ss p e (headSpec (.code N.yn N.cd N.ml N.rt :: gtbl) { frames := d, cells := cc, slots := ss, locals := 64 * d }).room s m args below meth c (MQ below (KQ G (inf N).2.1 (fun r lay' μ' => Q r lay' μ' (bc - cc) (bs - ss))) args s cc ss (fun q => G.z ≤ q)) (fun r lay' μ' => Q r lay' μ' (bc - cc) (bs - ss)) := by
    intro v lay' μ' H locs cells slots ls pc hq hi hP' hz' hS' hc' hs'
    have hf : ∀ q ∈ locs, G.z ≤ q.base := hS'.2.2
    have hF : ∀ t : State, t.heap = H → va_F (fun q => G.z ≤ q) s t := fun t ht => by rw [← ht] at hS'; exact ⟨hS'.1, hS'.2.1⟩
    have hrep : ∀ t : State, t.heap = H → s.WarmedH t.vm → Rep G lay' μ' t := fun t ht hW => rep_pre hB hP' hz' t ht hW
    refine W.widen (k := cc) (n := ss) hc' hs' ?_
    have hlocks := B.notSynchronized
    match v, hi with
    | none, hi =>
      have hrt : N.rt = none := by
        rw [m12] at hi
        have h2 := hi.2
        revert h2
        split <;> intro h2 <;> first | assumption | (cases h2)
      refine W.vret B.exec B.bytes (by rw [B.returns, hrt]) (fun t ht hW => ?_) hf hi.1
      rw [hi.2]
      exact ⟨⟨(lay', μ'), rfl, hq, hrep t ht hW⟩, hF t ht⟩
    | some (.int x), hi =>
      have hrt : ∃ ty, N.rt = some ty ∧ narrow ty (.int x) = .int x ∧ ((inf N).2.1 = 1 ∨ (inf N).2.1 = 3) := by
        have h2 := hi.2
        unfold rok at h2
        rcases h2 with h2 | ⟨h2, h3⟩
        · rw [h2] at m12
          revert m12
          split <;> intro m12 <;> first | (cases m12; done) | skip
          rename_i hh
          exact ⟨.int, hh, rfl, Or.inl h2⟩
        · rw [h2] at m12
          revert m12
          split <;> intro m12 <;> first | (cases m12; done) | skip
          rename_i hh
          exact ⟨.boolean, hh, by rcases h3 with rfl | rfl <;> rfl, Or.inr h2⟩
      obtain ⟨ty, hrt, hnar, hrk⟩ := hrt
      refine W.zret B.exec B.bytes (by rw [B.returns, hrt]) hnar (fun t ht hW => ?_) hf hi.1
      rcases hrk with hrk | hrk <;> rw [hrk] <;> exact ⟨⟨x, (lay', μ'), rfl, hq, hrep t ht hW⟩, hF t ht⟩
    | some (.long x), hi =>
      have hrt : N.rt = some .long := by
        rw [m12] at hi
        have h2 := hi.2
        revert h2
        split <;> intro h2 <;> first | assumption | (cases h2)
      refine W.lret B.exec B.bytes (by rw [B.returns, hrt]) (fun t ht hW => ?_) hf hi.1
      rw [hi.2]
      exact ⟨⟨x, (lay', μ'), rfl, hq, hrep t ht hW⟩, hF t ht⟩
  have key := h _ (VZ_closed hB hret (fun h2 => (name_of_methodNamed B.named B.method).1.trans (m10 h2)))
  have hE : entryFrame m args N.ml = F0 m 0 ((lg_sl (av.map (cv G)) ++ List.replicate (N.ml - (lg_sl (av.map (cv G))).length) Slot.unset).toArray) [] := by
    rw [show args = (av.map (cv G)).toArray from hargs]
    exact lg_entry_eq m _ _
  rw [hE]
  exact key s.heap [] 0 0 _ (loc0_ok hlen) hP hz va_S.rf (by omega) (by omega)
end SND8
end
