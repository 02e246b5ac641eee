section
-- ===== PART A: goes FIRST, ahead of the names: the tables' words, and 'selects' of the private methods out of them =====
/-- a private method of a class that the tables say can be made, by its rows of tables_1 -/
def lw_okq (q : MethodName × Nat) : Prop := (q.1.cls ≠ "java/lang/invoke/MethodHandle" ∧ q.1.cls ≠ "java/lang/invoke/VarHandle") ∧ Cond.instantiable q.1.cls q.2 ∈ tables_1 ∧ Cond.privateMethod q.1 ∈ tables_1 ∧ Cond.instanceMethod q.1 ∈ tables_1
theorem lw_p0 : lw_okq (⟨"OnecodeChancery", "hasSoundWordings", "()Z"⟩, 14) := ⟨⟨by decide +kernel, by decide +kernel⟩, List.mem_of_getElem? (i := 40) (by decide +kernel), List.mem_of_getElem? (i := 446) (by decide +kernel), List.mem_of_getElem? (i := 447) (by decide +kernel)⟩
theorem lw_p1 : lw_okq (⟨"OnecodeChancery", "realFacts", "(II)I"⟩, 14) := ⟨⟨by decide +kernel, by decide +kernel⟩, List.mem_of_getElem? (i := 40) (by decide +kernel), List.mem_of_getElem? (i := 450) (by decide +kernel), List.mem_of_getElem? (i := 451) (by decide +kernel)⟩
theorem lw_p2 : lw_okq (⟨"OnecodeChancery", "hasSoundVerdicts", "()Z"⟩, 14) := ⟨⟨by decide +kernel, by decide +kernel⟩, List.mem_of_getElem? (i := 40) (by decide +kernel), List.mem_of_getElem? (i := 454) (by decide +kernel), List.mem_of_getElem? (i := 455) (by decide +kernel)⟩
theorem lw_p3 : lw_okq (⟨"OnecodeChancery", "hasSoundPledges", "()Z"⟩, 14) := ⟨⟨by decide +kernel, by decide +kernel⟩, List.mem_of_getElem? (i := 40) (by decide +kernel), List.mem_of_getElem? (i := 458) (by decide +kernel), List.mem_of_getElem? (i := 459) (by decide +kernel)⟩
theorem lw_p4 : lw_okq (⟨"OnecodeChancery", "hasSoundArticles", "()Z"⟩, 14) := ⟨⟨by decide +kernel, by decide +kernel⟩, List.mem_of_getElem? (i := 40) (by decide +kernel), List.mem_of_getElem? (i := 462) (by decide +kernel), List.mem_of_getElem? (i := 463) (by decide +kernel)⟩
theorem lw_p5 : lw_okq (⟨"java/lang/Throwable", "fillInStackTrace", "(I)Ljava/lang/Throwable;"⟩, 6) := ⟨⟨by decide +kernel, by decide +kernel⟩, List.mem_of_getElem? (i := 521) (by decide +kernel), List.mem_of_getElem? (i := 519) (by decide +kernel), List.mem_of_getElem? (i := 520) (by decide +kernel)⟩
theorem lw_p6 : lw_okq (⟨"OnecodeChancery", "verdictCount", "()I"⟩, 14) := ⟨⟨by decide +kernel, by decide +kernel⟩, List.mem_of_getElem? (i := 40) (by decide +kernel), List.mem_of_getElem? (i := 566) (by decide +kernel), List.mem_of_getElem? (i := 567) (by decide +kernel)⟩
theorem lw_p7 : lw_okq (⟨"OnecodeChancery", "againstCustom", "()I"⟩, 14) := ⟨⟨by decide +kernel, by decide +kernel⟩, List.mem_of_getElem? (i := 40) (by decide +kernel), List.mem_of_getElem? (i := 570) (by decide +kernel), List.mem_of_getElem? (i := 571) (by decide +kernel)⟩
theorem lw_p8 : lw_okq (⟨"OnecodeChancery", "byCode", "(LOnecodeChancery$Dispute;I)I"⟩, 14) := ⟨⟨by decide +kernel, by decide +kernel⟩, List.mem_of_getElem? (i := 40) (by decide +kernel), List.mem_of_getElem? (i := 574) (by decide +kernel), List.mem_of_getElem? (i := 575) (by decide +kernel)⟩
theorem lw_p9 : lw_okq (⟨"OnecodeChancery$Code", "applying", "(ILOnecodeChancery$Dispute;)I"⟩, 5) := ⟨⟨by decide +kernel, by decide +kernel⟩, List.mem_of_getElem? (i := 123) (by decide +kernel), List.mem_of_getElem? (i := 582) (by decide +kernel), List.mem_of_getElem? (i := 583) (by decide +kernel)⟩
theorem lw_p10 : lw_okq (⟨"OnecodeChancery$Code", "toldByAll", "(IIIIII)I"⟩, 5) := ⟨⟨by decide +kernel, by decide +kernel⟩, List.mem_of_getElem? (i := 123) (by decide +kernel), List.mem_of_getElem? (i := 611) (by decide +kernel), List.mem_of_getElem? (i := 612) (by decide +kernel)⟩
theorem lw_p11 : lw_okq (⟨"OnecodeChancery$Code", "toldByOne", "(IIIIII)I"⟩, 5) := ⟨⟨by decide +kernel, by decide +kernel⟩, List.mem_of_getElem? (i := 123) (by decide +kernel), List.mem_of_getElem? (i := 615) (by decide +kernel), List.mem_of_getElem? (i := 616) (by decide +kernel)⟩
theorem lw_p12 : lw_okq (⟨"OnecodeChancery", "withRules", "(J)J"⟩, 14) := ⟨⟨by decide +kernel, by decide +kernel⟩, List.mem_of_getElem? (i := 40) (by decide +kernel), List.mem_of_getElem? (i := 620) (by decide +kernel), List.mem_of_getElem? (i := 621) (by decide +kernel)⟩
theorem lw_p13 : lw_okq (⟨"OnecodeChancery", "casesOf", "(LOnecodeChancery$Rule;)I"⟩, 14) := ⟨⟨by decide +kernel, by decide +kernel⟩, List.mem_of_getElem? (i := 40) (by decide +kernel), List.mem_of_getElem? (i := 647) (by decide +kernel), List.mem_of_getElem? (i := 648) (by decide +kernel)⟩
theorem lw_p14 : lw_okq (⟨"OnecodeChancery", "withCases", "(J)J"⟩, 14) := ⟨⟨by decide +kernel, by decide +kernel⟩, List.mem_of_getElem? (i := 40) (by decide +kernel), List.mem_of_getElem? (i := 652) (by decide +kernel), List.mem_of_getElem? (i := 653) (by decide +kernel)⟩
theorem lw_p15 : lw_okq (⟨"OnecodeChancery", "withArticles", "(J)J"⟩, 14) := ⟨⟨by decide +kernel, by decide +kernel⟩, List.mem_of_getElem? (i := 40) (by decide +kernel), List.mem_of_getElem? (i := 661) (by decide +kernel), List.mem_of_getElem? (i := 662) (by decide +kernel)⟩
def lw_privs_1 : List (MethodName × Nat) := [(⟨"OnecodeChancery", "hasSoundWordings", "()Z"⟩, 14), (⟨"OnecodeChancery", "realFacts", "(II)I"⟩, 14), (⟨"OnecodeChancery", "hasSoundVerdicts", "()Z"⟩, 14), (⟨"OnecodeChancery", "hasSoundPledges", "()Z"⟩, 14), (⟨"OnecodeChancery", "hasSoundArticles", "()Z"⟩, 14), (⟨"java/lang/Throwable", "fillInStackTrace", "(I)Ljava/lang/Throwable;"⟩, 6), (⟨"OnecodeChancery", "verdictCount", "()I"⟩, 14), (⟨"OnecodeChancery", "againstCustom", "()I"⟩, 14), (⟨"OnecodeChancery", "byCode", "(LOnecodeChancery$Dispute;I)I"⟩, 14), (⟨"OnecodeChancery$Code", "applying", "(ILOnecodeChancery$Dispute;)I"⟩, 5), (⟨"OnecodeChancery$Code", "toldByAll", "(IIIIII)I"⟩, 5), (⟨"OnecodeChancery$Code", "toldByOne", "(IIIIII)I"⟩, 5), (⟨"OnecodeChancery", "withRules", "(J)J"⟩, 14), (⟨"OnecodeChancery", "casesOf", "(LOnecodeChancery$Rule;)I"⟩, 14), (⟨"OnecodeChancery", "withCases", "(J)J"⟩, 14), (⟨"OnecodeChancery", "withArticles", "(J)J"⟩, 14)]
theorem lw_r1 : ∀ q ∈ lw_privs_1, lw_okq q := List.forall_mem_cons.mpr ⟨lw_p0, List.forall_mem_cons.mpr ⟨lw_p1, List.forall_mem_cons.mpr ⟨lw_p2, List.forall_mem_cons.mpr ⟨lw_p3, List.forall_mem_cons.mpr ⟨lw_p4, List.forall_mem_cons.mpr ⟨lw_p5, List.forall_mem_cons.mpr ⟨lw_p6, List.forall_mem_cons.mpr ⟨lw_p7, List.forall_mem_cons.mpr ⟨lw_p8, List.forall_mem_cons.mpr ⟨lw_p9, List.forall_mem_cons.mpr ⟨lw_p10, List.forall_mem_cons.mpr ⟨lw_p11, List.forall_mem_cons.mpr ⟨lw_p12, List.forall_mem_cons.mpr ⟨lw_p13, List.forall_mem_cons.mpr ⟨lw_p14, List.forall_mem_cons.mpr ⟨lw_p15, fun _ h => absurd h List.not_mem_nil⟩⟩⟩⟩⟩⟩⟩⟩⟩⟩⟩⟩⟩⟩⟩⟩
theorem lw_p16 : lw_okq (⟨"OnecodeChancery", "withGrids", "(J)J"⟩, 14) := ⟨⟨by decide +kernel, by decide +kernel⟩, List.mem_of_getElem? (i := 40) (by decide +kernel), List.mem_of_getElem? (i := 681) (by decide +kernel), List.mem_of_getElem? (i := 682) (by decide +kernel)⟩
theorem lw_p17 : lw_okq (⟨"OnecodeChancery$Grid", "addMark", "(I)V"⟩, 5) := ⟨⟨by decide +kernel, by decide +kernel⟩, List.mem_of_getElem? (i := 305) (by decide +kernel), List.mem_of_getElem? (i := 693) (by decide +kernel), List.mem_of_getElem? (i := 694) (by decide +kernel)⟩
theorem lw_p18 : lw_okq (⟨"OnecodeChancery$Grid", "addMarksOf", "(LOnecodeChancery$Clause;)V"⟩, 5) := ⟨⟨by decide +kernel, by decide +kernel⟩, List.mem_of_getElem? (i := 305) (by decide +kernel), List.mem_of_getElem? (i := 697) (by decide +kernel), List.mem_of_getElem? (i := 698) (by decide +kernel)⟩
theorem lw_p19 : lw_okq (⟨"OnecodeChancery$Grid", "add", "(II)V"⟩, 5) := ⟨⟨by decide +kernel, by decide +kernel⟩, List.mem_of_getElem? (i := 305) (by decide +kernel), List.mem_of_getElem? (i := 711) (by decide +kernel), List.mem_of_getElem? (i := 712) (by decide +kernel)⟩
theorem lw_p20 : lw_okq (⟨"OnecodeChancery", "askParishes", "(IIII)V"⟩, 14) := ⟨⟨by decide +kernel, by decide +kernel⟩, List.mem_of_getElem? (i := 40) (by decide +kernel), List.mem_of_getElem? (i := 731) (by decide +kernel), List.mem_of_getElem? (i := 732) (by decide +kernel)⟩
theorem lw_p21 : lw_okq (⟨"OnecodeChancery", "mostHeld", "()I"⟩, 14) := ⟨⟨by decide +kernel, by decide +kernel⟩, List.mem_of_getElem? (i := 40) (by decide +kernel), List.mem_of_getElem? (i := 735) (by decide +kernel), List.mem_of_getElem? (i := 736) (by decide +kernel)⟩
theorem lw_p22 : lw_okq (⟨"OnecodeChancery", "peopleWho", "(I)I"⟩, 14) := ⟨⟨by decide +kernel, by decide +kernel⟩, List.mem_of_getElem? (i := 40) (by decide +kernel), List.mem_of_getElem? (i := 739) (by decide +kernel), List.mem_of_getElem? (i := 740) (by decide +kernel)⟩
theorem lw_p23 : lw_okq (⟨"OnecodeChancery", "takeDraft", "(I)Z"⟩, 14) := ⟨⟨by decide +kernel, by decide +kernel⟩, List.mem_of_getElem? (i := 40) (by decide +kernel), List.mem_of_getElem? (i := 837) (by decide +kernel), List.mem_of_getElem? (i := 838) (by decide +kernel)⟩
theorem lw_p24 : lw_okq (⟨"OnecodeChancery$Draft", "takeMatter", "(LOnecodeChancery$Clause;)Z"⟩, 3) := ⟨⟨by decide +kernel, by decide +kernel⟩, List.mem_of_getElem? (i := 287) (by decide +kernel), List.mem_of_getElem? (i := 847) (by decide +kernel), List.mem_of_getElem? (i := 848) (by decide +kernel)⟩
theorem lw_p25 : lw_okq (⟨"OnecodeChancery$Draft", "takeSign", "(I)Z"⟩, 3) := ⟨⟨by decide +kernel, by decide +kernel⟩, List.mem_of_getElem? (i := 287) (by decide +kernel), List.mem_of_getElem? (i := 851) (by decide +kernel), List.mem_of_getElem? (i := 852) (by decide +kernel)⟩
theorem lw_p26 : lw_okq (⟨"OnecodeChancery$Draft", "nextSign", "()I"⟩, 3) := ⟨⟨by decide +kernel, by decide +kernel⟩, List.mem_of_getElem? (i := 287) (by decide +kernel), List.mem_of_getElem? (i := 855) (by decide +kernel), List.mem_of_getElem? (i := 856) (by decide +kernel)⟩
theorem lw_p27 : lw_okq (⟨"OnecodeChancery$Draft", "takeDigit", "(I)I"⟩, 3) := ⟨⟨by decide +kernel, by decide +kernel⟩, List.mem_of_getElem? (i := 287) (by decide +kernel), List.mem_of_getElem? (i := 859) (by decide +kernel), List.mem_of_getElem? (i := 860) (by decide +kernel)⟩
theorem lw_p28 : lw_okq (⟨"OnecodeChancery$Draft", "takeClasses", "(LOnecodeChancery$Clause;)Z"⟩, 3) := ⟨⟨by decide +kernel, by decide +kernel⟩, List.mem_of_getElem? (i := 287) (by decide +kernel), List.mem_of_getElem? (i := 863) (by decide +kernel), List.mem_of_getElem? (i := 864) (by decide +kernel)⟩
theorem lw_p29 : lw_okq (⟨"OnecodeChancery$Draft", "takeConditions", "(LOnecodeChancery$Clause;)Z"⟩, 3) := ⟨⟨by decide +kernel, by decide +kernel⟩, List.mem_of_getElem? (i := 287) (by decide +kernel), List.mem_of_getElem? (i := 867) (by decide +kernel), List.mem_of_getElem? (i := 868) (by decide +kernel)⟩
theorem lw_p30 : lw_okq (⟨"OnecodeChancery$Draft", "takeCondition", "(LOnecodeChancery$Clause;)Z"⟩, 3) := ⟨⟨by decide +kernel, by decide +kernel⟩, List.mem_of_getElem? (i := 287) (by decide +kernel), List.mem_of_getElem? (i := 871) (by decide +kernel), List.mem_of_getElem? (i := 872) (by decide +kernel)⟩
theorem lw_p31 : lw_okq (⟨"OnecodeChancery$Draft", "takeNumber", "(I)I"⟩, 3) := ⟨⟨by decide +kernel, by decide +kernel⟩, List.mem_of_getElem? (i := 287) (by decide +kernel), List.mem_of_getElem? (i := 875) (by decide +kernel), List.mem_of_getElem? (i := 876) (by decide +kernel)⟩
def lw_privs_2 : List (MethodName × Nat) := [(⟨"OnecodeChancery", "withGrids", "(J)J"⟩, 14), (⟨"OnecodeChancery$Grid", "addMark", "(I)V"⟩, 5), (⟨"OnecodeChancery$Grid", "addMarksOf", "(LOnecodeChancery$Clause;)V"⟩, 5), (⟨"OnecodeChancery$Grid", "add", "(II)V"⟩, 5), (⟨"OnecodeChancery", "askParishes", "(IIII)V"⟩, 14), (⟨"OnecodeChancery", "mostHeld", "()I"⟩, 14), (⟨"OnecodeChancery", "peopleWho", "(I)I"⟩, 14), (⟨"OnecodeChancery", "takeDraft", "(I)Z"⟩, 14), (⟨"OnecodeChancery$Draft", "takeMatter", "(LOnecodeChancery$Clause;)Z"⟩, 3), (⟨"OnecodeChancery$Draft", "takeSign", "(I)Z"⟩, 3), (⟨"OnecodeChancery$Draft", "nextSign", "()I"⟩, 3), (⟨"OnecodeChancery$Draft", "takeDigit", "(I)I"⟩, 3), (⟨"OnecodeChancery$Draft", "takeClasses", "(LOnecodeChancery$Clause;)Z"⟩, 3), (⟨"OnecodeChancery$Draft", "takeConditions", "(LOnecodeChancery$Clause;)Z"⟩, 3), (⟨"OnecodeChancery$Draft", "takeCondition", "(LOnecodeChancery$Clause;)Z"⟩, 3), (⟨"OnecodeChancery$Draft", "takeNumber", "(I)I"⟩, 3)]
theorem lw_r2 : ∀ q ∈ lw_privs_2, lw_okq q := List.forall_mem_cons.mpr ⟨lw_p16, List.forall_mem_cons.mpr ⟨lw_p17, List.forall_mem_cons.mpr ⟨lw_p18, List.forall_mem_cons.mpr ⟨lw_p19, List.forall_mem_cons.mpr ⟨lw_p20, List.forall_mem_cons.mpr ⟨lw_p21, List.forall_mem_cons.mpr ⟨lw_p22, List.forall_mem_cons.mpr ⟨lw_p23, List.forall_mem_cons.mpr ⟨lw_p24, List.forall_mem_cons.mpr ⟨lw_p25, List.forall_mem_cons.mpr ⟨lw_p26, List.forall_mem_cons.mpr ⟨lw_p27, List.forall_mem_cons.mpr ⟨lw_p28, List.forall_mem_cons.mpr ⟨lw_p29, List.forall_mem_cons.mpr ⟨lw_p30, List.forall_mem_cons.mpr ⟨lw_p31, fun _ h => absurd h List.not_mem_nil⟩⟩⟩⟩⟩⟩⟩⟩⟩⟩⟩⟩⟩⟩⟩⟩
theorem lw_p32 : lw_okq (⟨"OnecodeChancery$Draft", "takeOutcome", "(LOnecodeChancery$Clause;I)Z"⟩, 3) := ⟨⟨by decide +kernel, by decide +kernel⟩, List.mem_of_getElem? (i := 287) (by decide +kernel), List.mem_of_getElem? (i := 885) (by decide +kernel), List.mem_of_getElem? (i := 886) (by decide +kernel)⟩
theorem lw_p33 : lw_okq (⟨"OnecodeChancery$Draft", "takeException", "(LOnecodeChancery$Clause;I)Z"⟩, 3) := ⟨⟨by decide +kernel, by decide +kernel⟩, List.mem_of_getElem? (i := 287) (by decide +kernel), List.mem_of_getElem? (i := 889) (by decide +kernel), List.mem_of_getElem? (i := 890) (by decide +kernel)⟩
theorem lw_p34 : lw_okq (⟨"OnecodeChancery$Code", "sortOut", "()V"⟩, 5) := ⟨⟨by decide +kernel, by decide +kernel⟩, List.mem_of_getElem? (i := 123) (by decide +kernel), List.mem_of_getElem? (i := 898) (by decide +kernel), List.mem_of_getElem? (i := 899) (by decide +kernel)⟩
theorem lw_p35 : lw_okq (⟨"OnecodeChancery", "judgedBy", "(ILOnecodeChancery$Dispute;)I"⟩, 14) := ⟨⟨by decide +kernel, by decide +kernel⟩, List.mem_of_getElem? (i := 40) (by decide +kernel), List.mem_of_getElem? (i := 994) (by decide +kernel), List.mem_of_getElem? (i := 995) (by decide +kernel)⟩
theorem lw_p36 : lw_okq (⟨"OnecodeChanceryModel", "no", "(I)I"⟩, 18) := ⟨⟨by decide +kernel, by decide +kernel⟩, List.mem_of_getElem? (i := 1381) (by decide +kernel), List.mem_of_getElem? (i := 1477) (by decide +kernel), List.mem_of_getElem? (i := 1478) (by decide +kernel)⟩
theorem lw_p37 : lw_okq (⟨"java/util/ArrayList", "add", "(Ljava/lang/Object;[Ljava/lang/Object;I)V"⟩, 3) := ⟨⟨by decide +kernel, by decide +kernel⟩, List.mem_of_getElem? (i := 1388) (by decide +kernel), List.mem_of_getElem? (i := 1559) (by decide +kernel), List.mem_of_getElem? (i := 1560) (by decide +kernel)⟩
theorem lw_p38 : lw_okq (⟨"java/util/ArrayList", "grow", "()[Ljava/lang/Object;"⟩, 3) := ⟨⟨by decide +kernel, by decide +kernel⟩, List.mem_of_getElem? (i := 1388) (by decide +kernel), List.mem_of_getElem? (i := 1563) (by decide +kernel), List.mem_of_getElem? (i := 1564) (by decide +kernel)⟩
theorem lw_p39 : lw_okq (⟨"java/util/ArrayList", "grow", "(I)[Ljava/lang/Object;"⟩, 3) := ⟨⟨by decide +kernel, by decide +kernel⟩, List.mem_of_getElem? (i := 1388) (by decide +kernel), List.mem_of_getElem? (i := 1567) (by decide +kernel), List.mem_of_getElem? (i := 1568) (by decide +kernel)⟩
theorem lw_p40 : lw_okq (⟨"OnecodeChanceryModel", "isRule", "(I)Z"⟩, 18) := ⟨⟨by decide +kernel, by decide +kernel⟩, List.mem_of_getElem? (i := 1381) (by decide +kernel), List.mem_of_getElem? (i := 1613) (by decide +kernel), List.mem_of_getElem? (i := 1614) (by decide +kernel)⟩
theorem lw_p41 : lw_okq (⟨"OnecodeChanceryModel", "read", "(I)LOnecodeChanceryModel$Article;"⟩, 18) := ⟨⟨by decide +kernel, by decide +kernel⟩, List.mem_of_getElem? (i := 1381) (by decide +kernel), List.mem_of_getElem? (i := 1714) (by decide +kernel), List.mem_of_getElem? (i := 1715) (by decide +kernel)⟩
theorem lw_p42 : lw_okq (⟨"OnecodeChanceryModel", "takes", "(C)Z"⟩, 18) := ⟨⟨by decide +kernel, by decide +kernel⟩, List.mem_of_getElem? (i := 1381) (by decide +kernel), List.mem_of_getElem? (i := 1772) (by decide +kernel), List.mem_of_getElem? (i := 1773) (by decide +kernel)⟩
theorem lw_p43 : lw_okq (⟨"OnecodeChanceryModel", "sign", "()C"⟩, 18) := ⟨⟨by decide +kernel, by decide +kernel⟩, List.mem_of_getElem? (i := 1381) (by decide +kernel), List.mem_of_getElem? (i := 1776) (by decide +kernel), List.mem_of_getElem? (i := 1777) (by decide +kernel)⟩
theorem lw_p44 : lw_okq (⟨"OnecodeChanceryModel", "digit", "(I)I"⟩, 18) := ⟨⟨by decide +kernel, by decide +kernel⟩, List.mem_of_getElem? (i := 1381) (by decide +kernel), List.mem_of_getElem? (i := 1795) (by decide +kernel), List.mem_of_getElem? (i := 1796) (by decide +kernel)⟩
theorem lw_p45 : lw_okq (⟨"OnecodeChanceryModel", "condition", "(LOnecodeChanceryModel$Article;)V"⟩, 18) := ⟨⟨by decide +kernel, by decide +kernel⟩, List.mem_of_getElem? (i := 1381) (by decide +kernel), List.mem_of_getElem? (i := 1802) (by decide +kernel), List.mem_of_getElem? (i := 1803) (by decide +kernel)⟩
theorem lw_p46 : lw_okq (⟨"OnecodeChanceryModel", "number", "()I"⟩, 18) := ⟨⟨by decide +kernel, by decide +kernel⟩, List.mem_of_getElem? (i := 1381) (by decide +kernel), List.mem_of_getElem? (i := 1806) (by decide +kernel), List.mem_of_getElem? (i := 1807) (by decide +kernel)⟩
theorem lw_p47 : lw_okq (⟨"OnecodeChanceryModel", "named", "(I)I"⟩, 18) := ⟨⟨by decide +kernel, by decide +kernel⟩, List.mem_of_getElem? (i := 1381) (by decide +kernel), List.mem_of_getElem? (i := 1810) (by decide +kernel), List.mem_of_getElem? (i := 1811) (by decide +kernel)⟩
def lw_privs_3 : List (MethodName × Nat) := [(⟨"OnecodeChancery$Draft", "takeOutcome", "(LOnecodeChancery$Clause;I)Z"⟩, 3), (⟨"OnecodeChancery$Draft", "takeException", "(LOnecodeChancery$Clause;I)Z"⟩, 3), (⟨"OnecodeChancery$Code", "sortOut", "()V"⟩, 5), (⟨"OnecodeChancery", "judgedBy", "(ILOnecodeChancery$Dispute;)I"⟩, 14), (⟨"OnecodeChanceryModel", "no", "(I)I"⟩, 18), (⟨"java/util/ArrayList", "add", "(Ljava/lang/Object;[Ljava/lang/Object;I)V"⟩, 3), (⟨"java/util/ArrayList", "grow", "()[Ljava/lang/Object;"⟩, 3), (⟨"java/util/ArrayList", "grow", "(I)[Ljava/lang/Object;"⟩, 3), (⟨"OnecodeChanceryModel", "isRule", "(I)Z"⟩, 18), (⟨"OnecodeChanceryModel", "read", "(I)LOnecodeChanceryModel$Article;"⟩, 18), (⟨"OnecodeChanceryModel", "takes", "(C)Z"⟩, 18), (⟨"OnecodeChanceryModel", "sign", "()C"⟩, 18), (⟨"OnecodeChanceryModel", "digit", "(I)I"⟩, 18), (⟨"OnecodeChanceryModel", "condition", "(LOnecodeChanceryModel$Article;)V"⟩, 18), (⟨"OnecodeChanceryModel", "number", "()I"⟩, 18), (⟨"OnecodeChanceryModel", "named", "(I)I"⟩, 18)]
theorem lw_r3 : ∀ q ∈ lw_privs_3, lw_okq q := List.forall_mem_cons.mpr ⟨lw_p32, List.forall_mem_cons.mpr ⟨lw_p33, List.forall_mem_cons.mpr ⟨lw_p34, List.forall_mem_cons.mpr ⟨lw_p35, List.forall_mem_cons.mpr ⟨lw_p36, List.forall_mem_cons.mpr ⟨lw_p37, List.forall_mem_cons.mpr ⟨lw_p38, List.forall_mem_cons.mpr ⟨lw_p39, List.forall_mem_cons.mpr ⟨lw_p40, List.forall_mem_cons.mpr ⟨lw_p41, List.forall_mem_cons.mpr ⟨lw_p42, List.forall_mem_cons.mpr ⟨lw_p43, List.forall_mem_cons.mpr ⟨lw_p44, List.forall_mem_cons.mpr ⟨lw_p45, List.forall_mem_cons.mpr ⟨lw_p46, List.forall_mem_cons.mpr ⟨lw_p47, fun _ h => absurd h List.not_mem_nil⟩⟩⟩⟩⟩⟩⟩⟩⟩⟩⟩⟩⟩⟩⟩⟩
theorem lw_p48 : lw_okq (⟨"OnecodeChanceryModel", "isArticle", "(I)Z"⟩, 18) := ⟨⟨by decide +kernel, by decide +kernel⟩, List.mem_of_getElem? (i := 1381) (by decide +kernel), List.mem_of_getElem? (i := 1818) (by decide +kernel), List.mem_of_getElem? (i := 1819) (by decide +kernel)⟩
theorem lw_p49 : lw_okq (⟨"OnecodeChanceryModel", "isBill", "(I)Z"⟩, 18) := ⟨⟨by decide +kernel, by decide +kernel⟩, List.mem_of_getElem? (i := 1381) (by decide +kernel), List.mem_of_getElem? (i := 1822) (by decide +kernel), List.mem_of_getElem? (i := 1823) (by decide +kernel)⟩
theorem lw_p50 : lw_okq (⟨"OnecodeChanceryModel", "housesFor", "(IZ)I"⟩, 18) := ⟨⟨by decide +kernel, by decide +kernel⟩, List.mem_of_getElem? (i := 1381) (by decide +kernel), List.mem_of_getElem? (i := 1855) (by decide +kernel), List.mem_of_getElem? (i := 1856) (by decide +kernel)⟩
theorem lw_p51 : lw_okq (⟨"OnecodeChanceryModel", "margin", "(IIZ)I"⟩, 18) := ⟨⟨by decide +kernel, by decide +kernel⟩, List.mem_of_getElem? (i := 1381) (by decide +kernel), List.mem_of_getElem? (i := 1859) (by decide +kernel), List.mem_of_getElem? (i := 1860) (by decide +kernel)⟩
theorem lw_p52 : lw_okq (⟨"OnecodeChanceryModel", "likingNow", "(II)I"⟩, 18) := ⟨⟨by decide +kernel, by decide +kernel⟩, List.mem_of_getElem? (i := 1381) (by decide +kernel), List.mem_of_getElem? (i := 1863) (by decide +kernel), List.mem_of_getElem? (i := 1864) (by decide +kernel)⟩
theorem lw_p53 : lw_okq (⟨"OnecodeChanceryModel", "isCase", "(I)Z"⟩, 18) := ⟨⟨by decide +kernel, by decide +kernel⟩, List.mem_of_getElem? (i := 1381) (by decide +kernel), List.mem_of_getElem? (i := 1880) (by decide +kernel), List.mem_of_getElem? (i := 1881) (by decide +kernel)⟩
theorem lw_p54 : lw_okq (⟨"OnecodeChanceryModel", "judged", "(LOnecodeChanceryModel$Case;I)I"⟩, 18) := ⟨⟨by decide +kernel, by decide +kernel⟩, List.mem_of_getElem? (i := 1381) (by decide +kernel), List.mem_of_getElem? (i := 1884) (by decide +kernel), List.mem_of_getElem? (i := 1885) (by decide +kernel)⟩
theorem lw_p55 : lw_okq (⟨"OnecodeChanceryModel", "code", "(LOnecodeChanceryModel$Case;)I"⟩, 18) := ⟨⟨by decide +kernel, by decide +kernel⟩, List.mem_of_getElem? (i := 1381) (by decide +kernel), List.mem_of_getElem? (i := 1888) (by decide +kernel), List.mem_of_getElem? (i := 1889) (by decide +kernel)⟩
theorem lw_p56 : lw_okq (⟨"OnecodeChanceryModel", "code", "(LOnecodeChanceryModel$Case;II)I"⟩, 18) := ⟨⟨by decide +kernel, by decide +kernel⟩, List.mem_of_getElem? (i := 1381) (by decide +kernel), List.mem_of_getElem? (i := 1892) (by decide +kernel), List.mem_of_getElem? (i := 1893) (by decide +kernel)⟩
theorem lw_p57 : lw_okq (⟨"OnecodeChanceryModel", "isInForce", "(III)Z"⟩, 18) := ⟨⟨by decide +kernel, by decide +kernel⟩, List.mem_of_getElem? (i := 1381) (by decide +kernel), List.mem_of_getElem? (i := 1896) (by decide +kernel), List.mem_of_getElem? (i := 1897) (by decide +kernel)⟩
theorem lw_p58 : lw_okq (⟨"OnecodeChanceryModel", "told", "(ILOnecodeChanceryModel$Case;III)I"⟩, 18) := ⟨⟨by decide +kernel, by decide +kernel⟩, List.mem_of_getElem? (i := 1381) (by decide +kernel), List.mem_of_getElem? (i := 1920) (by decide +kernel), List.mem_of_getElem? (i := 1921) (by decide +kernel)⟩
theorem lw_p59 : lw_okq (⟨"OnecodeChanceryModel", "byTie", "(LOnecodeChanceryModel$Case;)I"⟩, 18) := ⟨⟨by decide +kernel, by decide +kernel⟩, List.mem_of_getElem? (i := 1381) (by decide +kernel), List.mem_of_getElem? (i := 1927) (by decide +kernel), List.mem_of_getElem? (i := 1928) (by decide +kernel)⟩
theorem lw_p60 : lw_okq (⟨"OnecodeChanceryModel", "custom", "(ILOnecodeChanceryModel$Case;)I"⟩, 18) := ⟨⟨by decide +kernel, by decide +kernel⟩, List.mem_of_getElem? (i := 1381) (by decide +kernel), List.mem_of_getElem? (i := 1931) (by decide +kernel), List.mem_of_getElem? (i := 1932) (by decide +kernel)⟩
theorem lw_p61 : lw_okq (⟨"OnecodeChanceryModel", "ruleNow", "(II)I"⟩, 18) := ⟨⟨by decide +kernel, by decide +kernel⟩, List.mem_of_getElem? (i := 1381) (by decide +kernel), List.mem_of_getElem? (i := 1962) (by decide +kernel), List.mem_of_getElem? (i := 1963) (by decide +kernel)⟩
theorem lw_p62 : lw_okq (⟨"OnecodeChanceryModel", "caseNow", "(II)I"⟩, 18) := ⟨⟨by decide +kernel, by decide +kernel⟩, List.mem_of_getElem? (i := 1381) (by decide +kernel), List.mem_of_getElem? (i := 1970) (by decide +kernel), List.mem_of_getElem? (i := 1971) (by decide +kernel)⟩
theorem lw_p63 : lw_okq (⟨"OnecodeChanceryModel", "articleNow", "(II)I"⟩, 18) := ⟨⟨by decide +kernel, by decide +kernel⟩, List.mem_of_getElem? (i := 1381) (by decide +kernel), List.mem_of_getElem? (i := 1988) (by decide +kernel), List.mem_of_getElem? (i := 1989) (by decide +kernel)⟩
def lw_privs_4 : List (MethodName × Nat) := [(⟨"OnecodeChanceryModel", "isArticle", "(I)Z"⟩, 18), (⟨"OnecodeChanceryModel", "isBill", "(I)Z"⟩, 18), (⟨"OnecodeChanceryModel", "housesFor", "(IZ)I"⟩, 18), (⟨"OnecodeChanceryModel", "margin", "(IIZ)I"⟩, 18), (⟨"OnecodeChanceryModel", "likingNow", "(II)I"⟩, 18), (⟨"OnecodeChanceryModel", "isCase", "(I)Z"⟩, 18), (⟨"OnecodeChanceryModel", "judged", "(LOnecodeChanceryModel$Case;I)I"⟩, 18), (⟨"OnecodeChanceryModel", "code", "(LOnecodeChanceryModel$Case;)I"⟩, 18), (⟨"OnecodeChanceryModel", "code", "(LOnecodeChanceryModel$Case;II)I"⟩, 18), (⟨"OnecodeChanceryModel", "isInForce", "(III)Z"⟩, 18), (⟨"OnecodeChanceryModel", "told", "(ILOnecodeChanceryModel$Case;III)I"⟩, 18), (⟨"OnecodeChanceryModel", "byTie", "(LOnecodeChanceryModel$Case;)I"⟩, 18), (⟨"OnecodeChanceryModel", "custom", "(ILOnecodeChanceryModel$Case;)I"⟩, 18), (⟨"OnecodeChanceryModel", "ruleNow", "(II)I"⟩, 18), (⟨"OnecodeChanceryModel", "caseNow", "(II)I"⟩, 18), (⟨"OnecodeChanceryModel", "articleNow", "(II)I"⟩, 18)]
theorem lw_r4 : ∀ q ∈ lw_privs_4, lw_okq q := List.forall_mem_cons.mpr ⟨lw_p48, List.forall_mem_cons.mpr ⟨lw_p49, List.forall_mem_cons.mpr ⟨lw_p50, List.forall_mem_cons.mpr ⟨lw_p51, List.forall_mem_cons.mpr ⟨lw_p52, List.forall_mem_cons.mpr ⟨lw_p53, List.forall_mem_cons.mpr ⟨lw_p54, List.forall_mem_cons.mpr ⟨lw_p55, List.forall_mem_cons.mpr ⟨lw_p56, List.forall_mem_cons.mpr ⟨lw_p57, List.forall_mem_cons.mpr ⟨lw_p58, List.forall_mem_cons.mpr ⟨lw_p59, List.forall_mem_cons.mpr ⟨lw_p60, List.forall_mem_cons.mpr ⟨lw_p61, List.forall_mem_cons.mpr ⟨lw_p62, List.forall_mem_cons.mpr ⟨lw_p63, fun _ h => absurd h List.not_mem_nil⟩⟩⟩⟩⟩⟩⟩⟩⟩⟩⟩⟩⟩⟩⟩⟩
theorem lw_p64 : lw_okq (⟨"OnecodeChanceryModel", "factionNow", "(II)I"⟩, 18) := ⟨⟨by decide +kernel, by decide +kernel⟩, List.mem_of_getElem? (i := 1381) (by decide +kernel), List.mem_of_getElem? (i := 2002) (by decide +kernel), List.mem_of_getElem? (i := 2003) (by decide +kernel)⟩
theorem lw_p65 : lw_okq (⟨"OnecodeChanceryModel", "gridNow", "(III)[I"⟩, 18) := ⟨⟨by decide +kernel, by decide +kernel⟩, List.mem_of_getElem? (i := 1381) (by decide +kernel), List.mem_of_getElem? (i := 2010) (by decide +kernel), List.mem_of_getElem? (i := 2011) (by decide +kernel)⟩
theorem lw_p66 : lw_okq (⟨"OnecodeChanceryModel", "marks", "(I)[I"⟩, 18) := ⟨⟨by decide +kernel, by decide +kernel⟩, List.mem_of_getElem? (i := 1381) (by decide +kernel), List.mem_of_getElem? (i := 2014) (by decide +kernel), List.mem_of_getElem? (i := 2015) (by decide +kernel)⟩
theorem lw_p67 : lw_okq (⟨"OnecodeChanceryModel", "gainNow", "(I)I"⟩, 18) := ⟨⟨by decide +kernel, by decide +kernel⟩, List.mem_of_getElem? (i := 1381) (by decide +kernel), List.mem_of_getElem? (i := 2027) (by decide +kernel), List.mem_of_getElem? (i := 2028) (by decide +kernel)⟩
theorem lw_p68 : lw_okq (⟨"OnecodeChanceryModel", "heldNow", "(IIIII)I"⟩, 18) := ⟨⟨by decide +kernel, by decide +kernel⟩, List.mem_of_getElem? (i := 1381) (by decide +kernel), List.mem_of_getElem? (i := 2035) (by decide +kernel), List.mem_of_getElem? (i := 2036) (by decide +kernel)⟩
theorem lw_p69 : lw_okq (⟨"OnecodeChanceryModel", "uniformityNow", "()D"⟩, 18) := ⟨⟨by decide +kernel, by decide +kernel⟩, List.mem_of_getElem? (i := 1381) (by decide +kernel), List.mem_of_getElem? (i := 2043) (by decide +kernel), List.mem_of_getElem? (i := 2044) (by decide +kernel)⟩
theorem lw_p70 : lw_okq (⟨"OnecodeChanceryModel", "realmNow", "(I)I"⟩, 18) := ⟨⟨by decide +kernel, by decide +kernel⟩, List.mem_of_getElem? (i := 1381) (by decide +kernel), List.mem_of_getElem? (i := 2051) (by decide +kernel), List.mem_of_getElem? (i := 2052) (by decide +kernel)⟩
theorem lw_p71 : lw_okq (⟨"OnecodeChanceryModel", "isSoundNow", "()Z"⟩, 18) := ⟨⟨by decide +kernel, by decide +kernel⟩, List.mem_of_getElem? (i := 1381) (by decide +kernel), List.mem_of_getElem? (i := 2076) (by decide +kernel), List.mem_of_getElem? (i := 2077) (by decide +kernel)⟩
def lw_privs_5 : List (MethodName × Nat) := [(⟨"OnecodeChanceryModel", "factionNow", "(II)I"⟩, 18), (⟨"OnecodeChanceryModel", "gridNow", "(III)[I"⟩, 18), (⟨"OnecodeChanceryModel", "marks", "(I)[I"⟩, 18), (⟨"OnecodeChanceryModel", "gainNow", "(I)I"⟩, 18), (⟨"OnecodeChanceryModel", "heldNow", "(IIIII)I"⟩, 18), (⟨"OnecodeChanceryModel", "uniformityNow", "()D"⟩, 18), (⟨"OnecodeChanceryModel", "realmNow", "(I)I"⟩, 18), (⟨"OnecodeChanceryModel", "isSoundNow", "()Z"⟩, 18)]
theorem lw_r5 : ∀ q ∈ lw_privs_5, lw_okq q := List.forall_mem_cons.mpr ⟨lw_p64, List.forall_mem_cons.mpr ⟨lw_p65, List.forall_mem_cons.mpr ⟨lw_p66, List.forall_mem_cons.mpr ⟨lw_p67, List.forall_mem_cons.mpr ⟨lw_p68, List.forall_mem_cons.mpr ⟨lw_p69, List.forall_mem_cons.mpr ⟨lw_p70, List.forall_mem_cons.mpr ⟨lw_p71, fun _ h => absurd h List.not_mem_nil⟩⟩⟩⟩⟩⟩⟩⟩
def lw_privs : List (MethodName × Nat) := lw_privs_1 ++ (lw_privs_2 ++ (lw_privs_3 ++ (lw_privs_4 ++ (lw_privs_5))))
def lw_tbl : List Cond := k2_sels lw_privs ++ tables_1
theorem lw_privs_ok : ∀ q ∈ lw_privs, lw_okq q := by
  show ∀ q ∈ lw_privs_1 ++ (lw_privs_2 ++ (lw_privs_3 ++ (lw_privs_4 ++ (lw_privs_5)))), lw_okq q
  exact List.forall_mem_append.mpr ⟨lw_r1, List.forall_mem_append.mpr ⟨lw_r2, List.forall_mem_append.mpr ⟨lw_r3, List.forall_mem_append.mpr ⟨lw_r4, lw_r5⟩⟩⟩⟩
/-- the streams that the claim lets the run draw from -/
abbrev lw_cs : List Choice := [Jvm.Choice.named "NaN.bits"]
theorem lw_bits : nanBits ∈ lw_cs := by first | decide | exact List.mem_cons_self | simp [lw_cs, nanBits]
end
section
/-! ===== BEGIN words of one list among another's, by their places ===== -/
theorem goodIn_r {big : List Cond} (ws : List Cond) (ps : List Nat) (hp : ws = ps.filterMap (fun i => big[i]?)) (h : ws.all goodWord = true) : GoodIn big ws := by
  intro w hw
  have h1 := List.all_eq_true.mp h w hw
  rw [hp] at hw
  obtain ⟨i, -, hi⟩ := List.mem_filterMap.mp hw
  have hm : w ∈ big := by first | exact List.mem_of_getElem? hi | exact List.getElem?_mem hi
  exact ⟨hm, good_of_word h1⟩
theorem goodIn_app {big a b : List Cond} (ha : GoodIn big a) (hb : GoodIn big b) : GoodIn big (a ++ b) := fun w h => (List.mem_append.mp h).elim (ha w) (hb w)
theorem goodIn_ca {big a b : List Cond} {c : Cond} (ha : GoodIn big (c :: a)) (hb : GoodIn big b) : GoodIn big (c :: (a ++ b)) := fun w h => (List.mem_cons.mp h).elim (fun e => ha w (List.mem_cons.mpr (Or.inl e))) (fun h => (List.mem_append.mp h).elim (fun h => ha w (List.mem_cons.mpr (Or.inr h))) (hb w))
theorem goodIn_sub {big ws : List Cond} (hm : ∀ w ∈ ws, w ∈ big) (h : ws.all goodWord = true) : GoodIn big ws := fun w hw => ⟨hm w hw, good_of_word (List.all_eq_true.mp h w hw)⟩
/-! ===== END ===== -/


/-! ===== BEGIN exceptions that leave a method, and their catching by the caller (launches without stack traces) ===== -/
section VXA
/-! The laws vx_back, vx_callV, vx_callS, vx_callSW, vx_throw0, vx_throwS follow proofs of the library, with one case more: JvmDerived/Free/Laws.lean (Back.of_free), Shelf42/LK1.lean (callV, callS), Shelf/KitTraced.lean (throwNew0V, throwNewS). -/
/-- where a method has thrown q: the class by its name, the cell, what was written, the world -/
def vx_T (XC : String → State → State → Prop) (st : State) (q : Addr) (t : State) (mc ms : Nat) (free : Addr → Prop) : Prop :=
  ∃ (E : String) (ce : Cell) (L : List Loc), XC E st t ∧ t.heap[q]? = some ce ∧ ce.vm = .none ∧ st.vm.findClass E = some ce.cls ∧ st.WarmedH t.vm ∧ st.sameButNew ({ t with vm := st.vm } : State) L mc ms ∧ ∀ z ∈ L, free z.base
def vx_Q (Qc : Array Value → State → Outcome → State → Prop) (XC : String → State → State → Prop) (mc ms : Nat) (free : Addr → Prop) : Array Value → State → Outcome → State → Prop := fun a st o t =>
  (Qc a st o t ∧ ∃ L, FrameEnd st o t L mc ms ∧ ∀ q ∈ L, free q.base) ∨ ∃ q, o = .threw q ∧ vx_T XC st q t mc ms free
/-- a callee that returns or throws -/
def vx_Met (l : Launch) (y : MethodName) (ws : List Cond) (rm : Room) (Pc : Array Value → State → Prop) (Qc : Array Value → State → Outcome → State → Prop) (XC : String → State → State → Prop) (mc ms : Nat) (free : Addr → Prop) : Prop :=
  MetFree l y (headSpec ws rm) Pc (fun _ _ _ _ _ => True) (vx_Q Qc XC mc ms free)
def vx_Post (XC : String → State → State → Prop) (mc ms : Nat) (free : Addr → Prop) : Pt → Array Value → Addr → Pt → Prop := fun A a q B =>
  ∃ (g : JFrame) (mk : MethodId) (t : State) (L : List Loc) (E : String) (ce : Cell), B.U.heap = t.heap ∧ B.U.vm = t.vm ∧ XC E (A.U.calling g mk a) t ∧ t.heap[q]? = some ce ∧ ce.vm = .none ∧ A.U.vm.findClass E = some ce.cls ∧ B.locs = A.locs ++ L ∧ (∀ z ∈ L, free z.base) ∧ B.cells = A.cells + mc ∧ B.slots = A.slots + ms
def vx_Back (l : Launch) (R : Room) (p : Program) (e : Env) (below : List Frame) (s : State) (sargs : Array Value) (y : MethodName) (len W9 : Nat)
    (Pre : Pt → Array Value → Prop) (Post : Pt → Array Value → Option Value → Pt → Prop) (PostX : Pt → Array Value → Addr → Pt → Prop) : Prop :=
  ∀ (m : MethodId) (meth : Method) (c : Code) (A : Pt) (g : JFrame) (ig : Instr) (mk : MethodId) (a : Array Value),
    Stand p l e R s m sargs below meth c A.U A.locs A.cells A.slots → g.method = m → g.locals.size = c.maxLocals → decode c.code g.pc = .ok (ig, len) →
    2 * g.monitorRoom + (g.stack.map fun v => v.category).sum ≤ W9 → A.U.methodNamed? y = some mk → Pre A a →
    (∃ (v : Option Value) (B : Pt), Stand p l e R s m sargs below meth c B.U B.locs B.cells B.slots ∧ Post A a v B ∧
      Steps p.tables e below (doInvoke e (A.U.setTop g) [] mk a).1 (B.U.setTop { g with pc := g.pc + len, stack := v.toList ++ g.stack })) ∨
    (∃ (q : Addr) (B : Pt), Stand p l e R s m sargs below meth c B.U B.locs B.cells B.slots ∧ PostX A a q B ∧
      Steps p.tables e below (doInvoke e (A.U.setTop g) [] mk a).1 ((B.U.setTop g).pushFrame (.throwing q)))
section Payer
variable {l : Launch} {R : Room} {p : Program} {e : Env} {below : List Frame} {s : State} {sargs : Array Value} {y : MethodName} {len W9 : Nat}
theorem vx_back {ws : List Cond} {rm : Room} {Pc : Array Value → State → Prop} {Qc : Array Value → State → Outcome → State → Prop} {XC : String → State → State → Prop} {mc ms : Nat} {free : Addr → Prop} {bytes : ByteArray} {maxL : Nat} {ret : Option FieldType}
    (hM : vx_Met l y ws rm Pc Qc XC mc ms free) (hblind : FrameBlind Pc) (hrc : rm.cells = mc) (hrs : rm.slots = ms)
    (hframes : rm.frames + 1 ≤ R.frames) (hlocals : W9 + (maxL + 11) + rm.locals ≤ R.locals)
    (hws : ∀ w ∈ ws, ∀ a' U, s.WarmedH U.vm → w.before a' U = true) (hcode : Cond.code y bytes maxL ret ∈ ws) (hinit : ∀ a' U, s.WarmedH U.vm → (Cond.initialized y.cls).before a' U = true) :
    vx_Back l R p e below s sargs y len W9 (PreOf R mc ms Pc) (PostOf Qc mc ms free) (vx_Post XC mc ms free) := by
  intro m meth c A g ig mk a X hg hsize hdg hW hn hp
  have h1 : (headSpec ws rm).pre.before a A.U = true := atoms_intro fun w hw => hws w hw _ _ X.warmed
  have h2 : (Cond.code y bytes maxL ret).before a A.U = true := hws _ hcode _ _ X.warmed
  have h3 : (Cond.initialized y.cls).before a A.U = true := hinit _ _ X.warmed
  have h4 : A.cells + (headSpec ws rm).room.cells ≤ R.cells := by rw [show (headSpec ws rm).room.cells = mc from hrc]; exact hp.1
  have h5 : A.slots + (headSpec ws rm).room.slots ≤ R.slots := by rw [show (headSpec ws rm).room.slots = ms from hrs]; exact hp.2.1
  have hPc : Pc a (A.U.calling g mk a) := hblind _ _ _ _ hp.2.2
  obtain ⟨U, Ls, c0, s0⟩ := A
  dsimp only [Pt.U, Pt.locs, Pt.cells, Pt.slots] at h1 h2 h3 h4 h5 X hn hPc ⊢
  obtain ⟨methY, cY, hmY, hcY, -, hlY, -, -, -, -⟩ := Cond.code_spec hn h2
  obtain ⟨kY, hkY, -⟩ := className_of_methodNamed hn
  have hinitY : kY.init = .initialized := Cond.initialized_spec (findClass_of_methodNamed hn) hkY h3
  have h : At U g.method c below := by rw [hg]; exact X.here
  have hlocals9 : W9 + (maxL + 11) + (headSpec ws rm).room.locals ≤ R.locals := hlocals
  have happ : (headSpec ws rm).appliesLoose y e.platform (U.calling g mk a) = true :=
    Spec.appliesLoose_calling (g := g) h hdg hn hkY hinitY
      (X.room_calling (g := g) (R' := (headSpec ws rm).room) hsize hmY hcY hframes (by rw [hlY]; omega) h4 h5) h1
  obtain ⟨mid, hmid⟩ := h.above
  have hfr : (U.setTop g).frames = (.java g :: mid) ++ below := by rw [State.frames_setTop' g h.top, hmid]; rfl
  obtain ⟨o, s₂, hsteps, -, hend, hq⟩ := Steps.callFree hM p X.admits X.cas X.clock (acts := []) hfr happ hPc trivial
  have hq' : vx_Q Qc XC mc ms free a (U.calling g mk a) o s₂ := hq
  rw [State.frames_setTop' g h.top] at hend
  obtain ⟨g₀, hg0⟩ := Option.isSome_iff_exists.mp h.top
  obtain ⟨r, hr⟩ := State.topJava?_eq_some.mp hg0
  have hr' : (({ U with heap := s₂.heap, slotsUsed := s₂.slotsUsed } : State).setVm s₂.vm).frames = .java g₀ :: r := hr
  rcases hq' with ⟨hqc, L, hfe, hL⟩ | ⟨q, rfl, E, ce, L, hx, hce, hcv, hcl, hW₂, hsm, hL⟩
  · obtain ⟨⟨v, rfl⟩, hW₂, e2, q2, q3, q4, q5, q6⟩ := id hfe
    have e3 : s₂ = ({ (U.calling g mk a).setFrames s₂.frames with heap := s₂.heap, slotsUsed := s₂.slotsUsed } : State).setVm s₂.vm := by
      have : s₂ = ({ s₂ with vm := (U.calling g mk a).vm } : State).setVm s₂.vm := rfl
      rw [e2] at this
      exact this
    obtain ⟨c₂, i₂, len₂, hc₂, hd₂, hf₂⟩ := hend
    have hW' : U.WarmedH s₂.vm := hW₂
    have hcc : c₂ = c := by
      have h1 : s₂.code? g.method = U.code? g.method := by
        rw [State.code?_eq, State.code?_eq, hW'.alike.method?]
      exact Option.some.inj (hc₂.symm.trans (h1.trans h.code))
    subst hcc
    have hlen : len₂ = len := by rw [hdg] at hd₂; cases hd₂; rfl
    subst hlen
    have hs₂ : s₂ = (({ U with heap := s₂.heap, slotsUsed := s₂.slotsUsed } : State).setVm s₂.vm).setTop { g with pc := g.pc + len₂, stack := v.toList ++ g.stack } := by
      refine e3.trans ?_
      rw [hf₂, State.calling_eq h.top, State.setFrames_setFrames, State.setTop_of_frames _ hr', hr]
      rfl
    have hsame : U.sameButNew ({ U with heap := s₂.heap, slotsUsed := s₂.slotsUsed } : State) L mc ms := by
      refine ⟨?_, q2, q3, q4, q5, q6⟩
      obtain ⟨t, ht, -⟩ := State.frames_cons hr
      show ({ U with heap := s₂.heap, slotsUsed := s₂.slotsUsed } : State) = { U.setFrames U.frames with heap := s₂.heap, slotsUsed := s₂.slotsUsed }
      rw [State.setFrames_self ht]
    subst hg
    refine Or.inl ⟨v, ⟨(({ U with heap := s₂.heap, slotsUsed := s₂.slotsUsed } : State).setVm s₂.vm), Ls ++ L, c0 + mc, s0 + ms⟩,
      ⟨X.admits, X.cas, X.clock, X.frames, X.room, X.hears, X.method, X.code, (X.here.setHeapUsed s₂.heap s₂.slotsUsed).setVm hW'.alike, X.tail, State.WarmedH.trans X.warmed hW', X.limits, X.bytes, X.same.trans (hsame.setVm s.vm)⟩,
      ⟨g, mk, s₂, L, rfl, rfl, hqc, rfl, hL, rfl, rfl⟩, ?_⟩
    show Steps p.tables e below _ ((({ U with heap := s₂.heap, slotsUsed := s₂.slotsUsed } : State).setVm s₂.vm).setTop { g with pc := g.pc + len₂, stack := v.toList ++ g.stack })
    rw [← hs₂]
    exact hsteps
  · obtain ⟨e2, q2, q3, q4, q5, q6⟩ := id hsm
    have e3 : s₂ = ({ (U.calling g mk a).setFrames s₂.frames with heap := s₂.heap, slotsUsed := s₂.slotsUsed } : State).setVm s₂.vm := by
      have : s₂ = ({ s₂ with vm := (U.calling g mk a).vm } : State).setVm s₂.vm := rfl
      rw [e2] at this
      exact this
    have hf₂ : s₂.frames = .throwing q :: .java g :: U.frames.tail := hend
    have hW' : U.WarmedH s₂.vm := hW₂
    have hs₂ : s₂ = ((({ U with heap := s₂.heap, slotsUsed := s₂.slotsUsed } : State).setVm s₂.vm).setTop g).pushFrame (.throwing q) := by
      refine e3.trans ?_
      rw [hf₂, State.calling_eq h.top, State.setFrames_setFrames, State.pushFrame, State.frames_setTop _ hr', State.setTop_of_frames _ hr', State.setFrames_setFrames, hr]
      rfl
    have hsame : U.sameButNew ({ U with heap := s₂.heap, slotsUsed := s₂.slotsUsed } : State) L mc ms := by
      refine ⟨?_, q2, q3, q4, q5, q6⟩
      obtain ⟨t, ht, -⟩ := State.frames_cons hr
      show ({ U with heap := s₂.heap, slotsUsed := s₂.slotsUsed } : State) = { U.setFrames U.frames with heap := s₂.heap, slotsUsed := s₂.slotsUsed }
      rw [State.setFrames_self ht]
    subst hg
    refine Or.inr ⟨q, ⟨(({ U with heap := s₂.heap, slotsUsed := s₂.slotsUsed } : State).setVm s₂.vm), Ls ++ L, c0 + mc, s0 + ms⟩,
      ⟨X.admits, X.cas, X.clock, X.frames, X.room, X.hears, X.method, X.code, (X.here.setHeapUsed s₂.heap s₂.slotsUsed).setVm hW'.alike, X.tail, State.WarmedH.trans X.warmed hW', X.limits, X.bytes, X.same.trans (hsame.setVm s.vm)⟩,
      ⟨g, mk, s₂, L, E, ce, rfl, rfl, hx, hce, hcv, hcl, rfl, hL, rfl, rfl⟩, ?_⟩
    show Steps p.tables e below _ (((({ U with heap := s₂.heap, slotsUsed := s₂.slotsUsed } : State).setVm s₂.vm).setTop g).pushFrame (.throwing q))
    rw [← hs₂]
    exact hsteps
end Payer
section Calls
variable {p : Program} {l : Launch} {e : Env} {R : Room} {s : State} {m : MethodId} {args : Array Value} {below : List Frame} {meth : Method} {c : Code} {T : State} {locs : List Loc} {cells slots : Nat}
theorem vx_callV (X : Stand p l e R s m args below meth c T locs cells slots) (hexec : p.tables.exec = Jvm.exec) {own C : String} {index : Nat} {y : MethodName} {bytes : ByteArray} {maxL : Nat} {ret : Option FieldType}
    (hown : s.vm.findClass own = some m.cls) (hlink : (Cond.methodLink own index y).before args s = true) (hinst : (Cond.instanceMethod y).before args s = true) (hsel : (Cond.selects C y y).before args s = true)
    (hcode : (Cond.code y bytes maxL ret).before args s = true) (hy : y.cls ≠ "java/lang/invoke/MethodHandle" ∧ y.cls ≠ "java/lang/invoke/VarHandle")
    {W9 : Nat} {Pre : Pt → Array Value → Prop} {Post : Pt → Array Value → Option Value → Pt → Prop} {PostX : Pt → Array Value → Addr → Pt → Prop} (hK : vx_Back l R p e below s args y 3 W9 Pre Post PostX)
    {b : Addr} {cellB : Cell} (hcell : T.heap[b]? = some cellB) (hobj : cellB.vm.isStatics = false) (hcls : s.vm.findClass C = some cellB.cls)
    {g : JFrame} (hg : g.method = m) (hsize : g.locals.size = c.maxLocals) {argsL rest : List Value} (hlen : ∀ sig, parseMethodDescriptor y.desc = some sig → argsL.length = sig.parameters.length)
    (hstack : g.stack = argsL.reverse ++ .ref b :: rest) (hW : 2 * g.monitorRoom + (rest.map fun v => v.category).sum ≤ W9) (hdg : decode c.code g.pc = .ok (.invokevirtual index, 3))
    (hpre : ∀ vm₁, s.WarmedH vm₁ → Pre ⟨T.setVm vm₁, locs, cells, slots⟩ (Value.ref b :: argsL).toArray) :
    (∃ (v : Option Value) (vm₁ : Vm) (B : Pt), s.WarmedH vm₁ ∧ Stand p l e R s m args below meth c B.U B.locs B.cells B.slots ∧ Post ⟨T.setVm vm₁, locs, cells, slots⟩ (Value.ref b :: argsL).toArray v B ∧
      ∀ target, Steps p.tables e below (B.U.setTop { g with pc := g.pc + 3, stack := v.toList ++ rest }) target → Steps p.tables e below (T.setTop g) target) ∨
    (∃ (q : Addr) (vm₁ : Vm) (B : Pt), s.WarmedH vm₁ ∧ Stand p l e R s m args below meth c B.U B.locs B.cells B.slots ∧ PostX ⟨T.setVm vm₁, locs, cells, slots⟩ (Value.ref b :: argsL).toArray q B ∧
      Steps p.tables e below (T.setTop g) ((B.U.setTop { g with stack := rest }).pushFrame (.throwing q))) := by
  obtain ⟨mk, methM, hnamed, hmethM, hstM, habM⟩ := Cond.instanceMethod_spec hinst
  obtain ⟨methM', cM, hmethM', -, -, -, -, -, -, hsigM⟩ := Cond.code_spec hnamed hcode
  cases hmethM.symm.trans hmethM'
  obtain ⟨c2, r2, m2, q1, q2, q3, q4, kP, hkP, hkPi⟩ := Cond.selects_spec hsel
  cases hcls.symm.trans q1
  cases (State.methodFound?_of_named hnamed hy).symm.trans q2
  cases hnamed.symm.trans q3
  have hselP : selectMethod e.platform s.vm cellB.cls mk = .method mk := by rw [Launch.admits_selectMethod X.admits]; exact q4
  obtain ⟨vm₁, X₁, hstep₁⟩ := X.invokevirtual hexec hown hlink hnamed hmethM hstM hkP hkPi hy (a := b) (cell := cellB) hcell
    (fun z h => by rw [h] at hobj; cases hobj) hselP hmethM habM hkP hkPi (g := g) hg (argsL := argsL) (rest := rest) (hlen _ hsigM) hstack hdg
  rcases hK m meth c ⟨T.setVm vm₁, locs, cells, slots⟩ { g with stack := rest } (.invokevirtual index) mk (Value.ref b :: argsL).toArray X₁ hg hsize hdg hW (X₁.named hnamed) (hpre vm₁ X₁.warmed) with ⟨v, B, X', hpost, hsteps⟩ | ⟨q, B, X', hpost, hsteps⟩
  · exact Or.inl ⟨v, vm₁, B, X₁.warmed, X', hpost, fun target h => hstep₁ _ fun acts => by rw [doInvoke_state]; exact hsteps.trans h⟩
  · exact Or.inr ⟨q, vm₁, B, X₁.warmed, X', hpost, hstep₁ _ fun acts => by rw [doInvoke_state]; exact hsteps⟩
theorem vx_callS (X : Stand p l e R s m args below meth c T locs cells slots) (hexec : p.tables.exec = Jvm.exec) {own : String} {index : Nat} {y : MethodName} {bytes : ByteArray} {maxL : Nat} {ret : Option FieldType}
    (hown : s.vm.findClass own = some m.cls) (hlink : (Cond.methodLink own index y).before args s = true) (hstat : (Cond.static y).before args s = true) (hinit : (Cond.initialized y.cls).before args s = true)
    (hcode : (Cond.code y bytes maxL ret).before args s = true) (hy : y.cls ≠ "java/lang/invoke/MethodHandle" ∧ y.cls ≠ "java/lang/invoke/VarHandle")
    {W9 : Nat} {Pre : Pt → Array Value → Prop} {Post : Pt → Array Value → Option Value → Pt → Prop} {PostX : Pt → Array Value → Addr → Pt → Prop} (hK : vx_Back l R p e below s args y 3 W9 Pre Post PostX)
    {g : JFrame} (hg : g.method = m) (hsize : g.locals.size = c.maxLocals) {argsL rest : List Value} (hlen : ∀ sig, parseMethodDescriptor y.desc = some sig → argsL.length = sig.parameters.length)
    (hstack : g.stack = argsL.reverse ++ rest) (hW : 2 * g.monitorRoom + (rest.map fun v => v.category).sum ≤ W9) (hdg : decode c.code g.pc = .ok (.invokestatic index, 3))
    (hpre : ∀ vm₁, s.WarmedH vm₁ → Pre ⟨T.setVm vm₁, locs, cells, slots⟩ argsL.toArray) :
    (∃ (v : Option Value) (vm₁ : Vm) (B : Pt), s.WarmedH vm₁ ∧ Stand p l e R s m args below meth c B.U B.locs B.cells B.slots ∧ Post ⟨T.setVm vm₁, locs, cells, slots⟩ argsL.toArray v B ∧
      ∀ target, Steps p.tables e below (B.U.setTop { g with pc := g.pc + 3, stack := v.toList ++ rest }) target → Steps p.tables e below (T.setTop g) target) ∨
    (∃ (q : Addr) (vm₁ : Vm) (B : Pt), s.WarmedH vm₁ ∧ Stand p l e R s m args below meth c B.U B.locs B.cells B.slots ∧ PostX ⟨T.setVm vm₁, locs, cells, slots⟩ argsL.toArray q B ∧
      Steps p.tables e below (T.setTop g) ((B.U.setTop { g with stack := rest }).pushFrame (.throwing q))) := by
  obtain ⟨mk, hnamed⟩ := Cond.code_named hcode
  obtain ⟨methM, cM, hmethM, -, -, -, -, -, -, hsigM⟩ := Cond.code_spec hnamed hcode
  have hstatic : methM.isStatic = true := Cond.static_spec hnamed hmethM hstat
  obtain ⟨kP, hkP, -⟩ := className_of_methodNamed hnamed
  have hinitP : kP.init = .initialized := Cond.initialized_spec (findClass_of_methodNamed hnamed) hkP hinit
  obtain ⟨vm₁, X₁, hstep₁⟩ := X.invokestatic hexec hown hlink hnamed hmethM hstatic hkP hinitP hy (g := g) hg (argsL := argsL) (rest := rest) (hlen _ hsigM) hstack hdg
  rcases hK m meth c ⟨T.setVm vm₁, locs, cells, slots⟩ { g with stack := rest } (.invokestatic index) mk argsL.toArray X₁ hg hsize hdg hW (X₁.named hnamed) (hpre vm₁ X₁.warmed) with ⟨v, B, X', hpost, hsteps⟩ | ⟨q, B, X', hpost, hsteps⟩
  · exact Or.inl ⟨v, vm₁, B, X₁.warmed, X', hpost, fun target h => hstep₁ _ fun acts => by rw [doInvoke_state]; exact hsteps.trans h⟩
  · exact Or.inr ⟨q, vm₁, B, X₁.warmed, X', hpost, hstep₁ _ fun acts => by rw [doInvoke_state]; exact hsteps⟩
end Calls
theorem vx_cls {s : State} {T : State} {vm₁ : Vm} {E : String} {k : ClassId} (hW : s.WarmedH vm₁) (h : (T.setVm vm₁).vm.findClass E = some k) : s.vm.findClass E = some k := by
  have h1 : vm₁.findClass E = some k := h
  rw [hW.alike.findClass] at h1
  exact h1
/-- the method's frame g, with q thrown over it -/
def vx_W (p : Program) (l : Launch) (e : Env) (R : Room) (s : State) (m : MethodId) (args : Array Value) (below : List Frame) (meth : Method) (c : Code) (H : Heap) (locs : List Loc) (cells slots : Nat) (Q : State → Prop) (g : JFrame) (q : Addr) : Prop :=
  ∀ T : State, T.heap = H → Stand p l e R s m args below meth c T locs cells slots → ∃ t, Steps p.tables e below ((T.setTop g).pushFrame (.throwing q)) t ∧ Q t
def vx_Run (p : Program) (l : Launch) (e : Env) (R : Room) (s : State) (m : MethodId) (args : Array Value) (below : List Frame) (meth : Method) (c : Code) (H : Heap) (locs : List Loc) (cells slots mc ms : Nat) (g : JFrame) (rest : List Value) (Qa : State → Outcome → State → Prop) (XC : String → State → State → Prop) (free : Addr → Prop) : Prop :=
  ∀ T : State, T.heap = H → Stand p l e R s m args below meth c T locs cells slots →
    (∃ (v : Option Value) (st₀ t T' : State) (L : List Loc), st₀.heap = H ∧ Stand p l e R s m args below meth c T' (locs ++ L) (cells + mc) (slots + ms) ∧ (∀ q ∈ L, free q.base) ∧ T'.heap = t.heap ∧ T'.vm = t.vm ∧ Qa st₀ (.returned v) t ∧
      Goes p e below T g T' { g with pc := g.pc + 3, stack := v.toList ++ rest }) ∨
    (∃ (q : Addr) (st₀ t T' : State) (L : List Loc) (E : String) (ce : Cell), st₀.heap = H ∧ Stand p l e R s m args below meth c T' (locs ++ L) (cells + mc) (slots + ms) ∧ (∀ z ∈ L, free z.base) ∧ T'.heap = t.heap ∧ T'.vm = t.vm ∧ XC E st₀ t ∧ t.heap[q]? = some ce ∧ ce.vm = .none ∧ s.vm.findClass E = some ce.cls ∧
      Steps p.tables e below (T.setTop g) ((T'.setTop { g with stack := rest }).pushFrame (.throwing q)))
def vx_X {S : Type} (px : S → Prop) (B : String → S → State → Prop) (A : Nat → Prop) : String → State → State → Prop := fun E st t => ∃ u : S, px u ∧ B E u t ∧ va_F A st t
section Runs
variable {p : Program} {l : Launch} {e : Env} {R : Room} {s : State} {m : MethodId} {args : Array Value} {below : List Frame} {meth : Method} {c : Code} {H : Heap} {locs : List Loc} {cells slots : Nat}
variable {y : MethodName} {bytes cc : ByteArray} {maxL nL mc ms n index : Nat} {ret : Option FieldType} {ws : List Cond} {rm : Room} {Pc : Array Value → State → Prop} {Qc : Array Value → State → Outcome → State → Prop} {XC : String → State → State → Prop} {free : Addr → Prop} {Ts : List Cond} {own C : String} {b : Addr} {As rest : List Value} {g : JFrame}
theorem vx_callBack (cb : CallB R s args own index y bytes maxL ret ws rm mc ms n) (hM : vx_Met l y ws rm Pc Qc XC mc ms free) (hbl : FrameBlind Pc) : vx_Back l R p e below s args y 3 8 (PreOf R mc ms Pc) (PostOf Qc mc ms free) (vx_Post XC mc ms free) := by
  obtain ⟨hrc, hrs, hfr, hlo, hws, hcw, -, hini, -⟩ := cb
  exact vx_back (bytes := bytes) (maxL := maxL) (ret := ret) hM hbl hrc hrs hfr hlo hws hcw (fun a' U hW => word_at hW (Or.inl (by first | rfl | simp [Cond.onTables, Cond.keeps, Cond.steady])) hini)
theorem vx_runV (S : CallFix p m c cc nL s args Ts own) (hM : vx_Met l y ws rm Pc Qc XC mc ms free) (cw : CallW R s args own C index y bytes maxL ret ws rm mc ms n) (hp : PreV s H C b Pc As)
    (hg : g.method = m) (hn : As.length = n) (hsize : g.locals.size = nL) (hstack : g.stack = As.reverse ++ .ref b :: rest) (hW : 2 * g.monitorRoom + (rest.map fun v => v.category).sum ≤ 8) (hdg : decode cc g.pc = .ok (.invokevirtual index, 3)) (hf : cells + mc ≤ R.cells ∧ slots + ms ≤ R.slots) :
    vx_Run p l e R s m args below meth c H locs cells slots mc ms g rest (Qc (Value.ref b :: As).toArray) XC free := by
  have hK : vx_Back l R p e below s args y 3 8 (PreOf R mc ms Pc) (PostOf Qc mc ms free) (vx_Post XC mc ms free) := vx_callBack cw.1 hM hp.1
  obtain ⟨⟨-, -, -, -, -, -, hcode, -, hy, hlen, hl⟩, hin, hse⟩ := cw
  obtain ⟨hx, hb, hml, ho, -⟩ := S
  obtain ⟨-, ⟨cellB, hcB, hoB, hclB⟩, hPc⟩ := hp
  intro T hT X
  rcases vx_callV X hx (C := C) (bytes := bytes) (maxL := maxL) (ret := ret) ho hl hin hse hcode hy hK (by rw [hT]; exact hcB) hoB hclB hg (hsize.trans hml.symm) (argsL := As) (rest := rest) (fun sig h => hn.trans (hlen sig h)) hstack hW (by rw [hb]; exact hdg)
    (fun vm₁ hW₁ => ⟨hf.1, hf.2, hPc (T.setVm vm₁) hT hW₁⟩) with ⟨v, vm₁, ⟨U', l2, c2, s2⟩, hW₁, X', ⟨g', mk, t, L, e1, e2, hq, h1, hL, h2, h3⟩, st⟩ | ⟨q, vm₁, ⟨U', l2, c2, s2⟩, hW₁, X', ⟨g', mk, t, L, E, ce, e1, e2, hq, hce, hcv, hcl, h1, hL, h2, h3⟩, st⟩
  · dsimp only [Pt.U, Pt.locs, Pt.cells, Pt.slots] at X' e1 e2 h1 h2 h3 st
    subst h1; subst h2; subst h3
    exact Or.inl ⟨v, (T.setVm vm₁).calling g' mk (Value.ref b :: As).toArray, t, U', L, hT, X', hL, e1, e2, hq, st⟩
  · dsimp only [Pt.U, Pt.locs, Pt.cells, Pt.slots] at X' e1 e2 h1 h2 h3 st hcl
    subst h1; subst h2; subst h3
    exact Or.inr ⟨q, (T.setVm vm₁).calling g' mk (Value.ref b :: As).toArray, t, U', L, E, ce, hT, X', hL, e1, e2, hq, hce, hcv, vx_cls hW₁ hcl, st⟩
theorem vx_runS (S : CallFix p m c cc nL s args Ts own) (hM : vx_Met l y ws rm Pc Qc XC mc ms free) (cw : CallB R s args own index y bytes maxL ret ws rm mc ms n ∧ (Cond.static y).before args s = true) (hp : PreS s H Pc As)
    (hg : g.method = m) (hn : As.length = n) (hsize : g.locals.size = nL) (hstack : g.stack = As.reverse ++ rest) (hW : 2 * g.monitorRoom + (rest.map fun v => v.category).sum ≤ 8) (hdg : decode cc g.pc = .ok (.invokestatic index, 3)) (hf : cells + mc ≤ R.cells ∧ slots + ms ≤ R.slots) :
    vx_Run p l e R s m args below meth c H locs cells slots mc ms g rest (Qc As.toArray) XC free := by
  have hK : vx_Back l R p e below s args y 3 8 (PreOf R mc ms Pc) (PostOf Qc mc ms free) (vx_Post XC mc ms free) := vx_callBack cw.1 hM hp.1
  obtain ⟨⟨-, -, -, -, -, -, hcode, hini, hy, hlen, hl⟩, hstt⟩ := cw
  obtain ⟨hx, hb, hml, ho, -⟩ := S
  intro T hT X
  rcases vx_callS X hx (bytes := bytes) (maxL := maxL) (ret := ret) ho hl hstt hini hcode hy hK hg (hsize.trans hml.symm) (argsL := As) (rest := rest) (fun sig h => hn.trans (hlen sig h)) hstack hW (by rw [hb]; exact hdg)
    (fun vm₁ hW₁ => ⟨hf.1, hf.2, hp.2 (T.setVm vm₁) hT hW₁⟩) with ⟨v, vm₁, ⟨U', l2, c2, s2⟩, hW₁, X', ⟨g', mk, t, L, e1, e2, hq, h1, hL, h2, h3⟩, st⟩ | ⟨q, vm₁, ⟨U', l2, c2, s2⟩, hW₁, X', ⟨g', mk, t, L, E, ce, e1, e2, hq, hce, hcv, hcl, h1, hL, h2, h3⟩, st⟩
  · dsimp only [Pt.U, Pt.locs, Pt.cells, Pt.slots] at X' e1 e2 h1 h2 h3 st
    subst h1; subst h2; subst h3
    exact Or.inl ⟨v, (T.setVm vm₁).calling g' mk As.toArray, t, U', L, hT, X', hL, e1, e2, hq, st⟩
  · dsimp only [Pt.U, Pt.locs, Pt.cells, Pt.slots] at X' e1 e2 h1 h2 h3 st hcl
    subst h1; subst h2; subst h3
    exact Or.inr ⟨q, (T.setVm vm₁).calling g' mk As.toArray, t, U', L, E, ce, hT, X', hL, e1, e2, hq, hce, hcv, vx_cls hW₁ hcl, st⟩
end Runs
section Rows
variable {p : Program} {l : Launch} {e : Env} {R : Room} {s : State} {m : MethodId} {args : Array Value} {below : List Frame} {meth : Method} {c : Code} {H : Heap} {locs : List Loc} {cells slots : Nat} {Q : State → Prop}
variable {mc ms : Nat} {free : Addr → Prop} {A0 A1 : Nat → Prop} {H0 : Heap} {a : Array Value} {pc : Nat} {ls : Array Slot} {st0 rest : List Value}
theorem vx_keep {st₀ t T' : State} {L : List Loc} (h0 : st₀.heap = H) (e1 : T'.heap = t.heap) (hS : va_S A0 H0 H locs) (hA : ∀ q, q < H.size → A1 q → A0 q) (hf : ∀ q, free q → A0 q) (hL : ∀ q ∈ L, free q.base) (hF : va_F A1 st₀ t) :
    H.size ≤ T'.heap.size ∧ (∀ q : Nat, q < H.size → ¬ A1 q → T'.heap[q]? = H[q]?) ∧ va_S A0 H0 T'.heap (locs ++ L) := by
  obtain ⟨hz, hk⟩ := hF
  rw [h0] at hz hk
  exact ⟨by rw [e1]; exact hz, fun q h1 h2 => by rw [e1]; exact hk q h1 h2,
    ⟨Nat.le_trans hS.1 (by rw [e1]; exact hz), fun q h1 h2 => by rw [e1, hk q (Nat.lt_of_lt_of_le h1 hS.1) (fun z => h2 (hA q (Nat.lt_of_lt_of_le h1 hS.1) z))]; exact hS.2.1 q h1 h2, fun q hq => by
      rcases List.mem_append.mp hq with h | h
      · exact hS.2.2 q h
      · exact hf _ (hL q h)⟩⟩
theorem vx_calli {S SX : Type} {post : Int32 → S → Prop} {px : SX → Prop} {B : S → State → Prop} {BX : String → SX → State → Prop} {AX : Nat → Prop} (hr : vx_Run p l e R s m args below meth c H locs cells slots mc ms (F0 m pc ls st0) rest (va_Qi post B A1 a) (vx_X px BX AX) free) (hS : va_S A0 H0 H locs) (hA : ∀ q, q < H.size → A1 q → A0 q) (hf : ∀ q, free q → A0 q) (hAX : ∀ q, q < H.size → AX q → A0 q)
    (kx : ∀ (E : String) (ce : Cell) (q9 : Addr) (u : SX) (t : State) (H1 : Heap) (locs1 : List Loc), t.heap = H1 → s.vm.Alike t.vm → px u → BX E u t → H.size ≤ H1.size → (∀ q : Nat, q < H.size → ¬ AX q → H1[q]? = H[q]?) → va_S A0 H0 H1 locs1 → H1[q9]? = some ce → ce.vm = .none → s.vm.findClass E = some ce.cls → vx_W p l e R s m args below meth c H1 locs1 (cells + mc) (slots + ms) Q (F0 m pc ls rest) q9)
    (kk : ∀ (r : Int32) (u : S) (t : State) (H1 : Heap) (locs1 : List Loc), t.heap = H1 → s.vm.Alike t.vm → post r u → B u t → H.size ≤ H1.size → (∀ q : Nat, q < H.size → ¬ A1 q → H1[q]? = H[q]?) → va_S A0 H0 H1 locs1 → W p l e R s m args below meth c H1 locs1 (cells + mc) (slots + ms) Q (F0 m (pc + 3) ls (.int r :: rest))) : W p l e R s m args below meth c H locs cells slots Q (F0 m pc ls st0) := by
  intro T hT X
  rcases hr T hT X with ⟨v, st₀, t, T', L, h0, X', hL, e1, e2, ⟨⟨r, u, hv, hp, hb⟩, hF⟩, st⟩ | ⟨q, st₀, t, T', L, E, ce, h0, X', hL, e1, e2, ⟨u, hp, hb, hF⟩, hce, hcv, hcl, st⟩
  · cases hv
    obtain ⟨k1, k2, k3⟩ := vx_keep h0 e1 hS hA hf hL hF
    obtain ⟨t2, a1, b1⟩ := kk r u t T'.heap (locs ++ L) e1.symm (by rw [← e2]; exact X'.warmed.alike) hp hb k1 k2 k3 T' rfl X'
    exact ⟨t2, st t2 a1, b1⟩
  · obtain ⟨k1, k2, k3⟩ := vx_keep h0 e1 hS hAX hf hL hF
    obtain ⟨t2, a1, b1⟩ := kx E ce q u t T'.heap (locs ++ L) e1.symm (by rw [← e2]; exact X'.warmed.alike) hp hb k1 k2 k3 (by rw [e1]; exact hce) hcv hcl T' rfl X'
    exact ⟨t2, st.trans a1, b1⟩
theorem vx_calll {S SX : Type} {post : Int64 → S → Prop} {px : SX → Prop} {B : S → State → Prop} {BX : String → SX → State → Prop} {AX : Nat → Prop} (hr : vx_Run p l e R s m args below meth c H locs cells slots mc ms (F0 m pc ls st0) rest (va_Ql post B A1 a) (vx_X px BX AX) free) (hS : va_S A0 H0 H locs) (hA : ∀ q, q < H.size → A1 q → A0 q) (hf : ∀ q, free q → A0 q) (hAX : ∀ q, q < H.size → AX q → A0 q)
    (kx : ∀ (E : String) (ce : Cell) (q9 : Addr) (u : SX) (t : State) (H1 : Heap) (locs1 : List Loc), t.heap = H1 → s.vm.Alike t.vm → px u → BX E u t → H.size ≤ H1.size → (∀ q : Nat, q < H.size → ¬ AX q → H1[q]? = H[q]?) → va_S A0 H0 H1 locs1 → H1[q9]? = some ce → ce.vm = .none → s.vm.findClass E = some ce.cls → vx_W p l e R s m args below meth c H1 locs1 (cells + mc) (slots + ms) Q (F0 m pc ls rest) q9)
    (kk : ∀ (r : Int64) (u : S) (t : State) (H1 : Heap) (locs1 : List Loc), t.heap = H1 → s.vm.Alike t.vm → post r u → B u t → H.size ≤ H1.size → (∀ q : Nat, q < H.size → ¬ A1 q → H1[q]? = H[q]?) → va_S A0 H0 H1 locs1 → W p l e R s m args below meth c H1 locs1 (cells + mc) (slots + ms) Q (F0 m (pc + 3) ls (.long r :: rest))) : W p l e R s m args below meth c H locs cells slots Q (F0 m pc ls st0) := by
  intro T hT X
  rcases hr T hT X with ⟨v, st₀, t, T', L, h0, X', hL, e1, e2, ⟨⟨r, u, hv, hp, hb⟩, hF⟩, st⟩ | ⟨q, st₀, t, T', L, E, ce, h0, X', hL, e1, e2, ⟨u, hp, hb, hF⟩, hce, hcv, hcl, st⟩
  · cases hv
    obtain ⟨k1, k2, k3⟩ := vx_keep h0 e1 hS hA hf hL hF
    obtain ⟨t2, a1, b1⟩ := kk r u t T'.heap (locs ++ L) e1.symm (by rw [← e2]; exact X'.warmed.alike) hp hb k1 k2 k3 T' rfl X'
    exact ⟨t2, st t2 a1, b1⟩
  · obtain ⟨k1, k2, k3⟩ := vx_keep h0 e1 hS hAX hf hL hF
    obtain ⟨t2, a1, b1⟩ := kx E ce q u t T'.heap (locs ++ L) e1.symm (by rw [← e2]; exact X'.warmed.alike) hp hb k1 k2 k3 (by rw [e1]; exact hce) hcv hcl T' rfl X'
    exact ⟨t2, st.trans a1, b1⟩
theorem vx_callf {S SX : Type} {post : UInt32 → S → Prop} {px : SX → Prop} {B : S → State → Prop} {BX : String → SX → State → Prop} {AX : Nat → Prop} (hr : vx_Run p l e R s m args below meth c H locs cells slots mc ms (F0 m pc ls st0) rest (va_Qf post B A1 a) (vx_X px BX AX) free) (hS : va_S A0 H0 H locs) (hA : ∀ q, q < H.size → A1 q → A0 q) (hf : ∀ q, free q → A0 q) (hAX : ∀ q, q < H.size → AX q → A0 q)
    (kx : ∀ (E : String) (ce : Cell) (q9 : Addr) (u : SX) (t : State) (H1 : Heap) (locs1 : List Loc), t.heap = H1 → s.vm.Alike t.vm → px u → BX E u t → H.size ≤ H1.size → (∀ q : Nat, q < H.size → ¬ AX q → H1[q]? = H[q]?) → va_S A0 H0 H1 locs1 → H1[q9]? = some ce → ce.vm = .none → s.vm.findClass E = some ce.cls → vx_W p l e R s m args below meth c H1 locs1 (cells + mc) (slots + ms) Q (F0 m pc ls rest) q9)
    (kk : ∀ (r : UInt32) (u : S) (t : State) (H1 : Heap) (locs1 : List Loc), t.heap = H1 → s.vm.Alike t.vm → post r u → B u t → H.size ≤ H1.size → (∀ q : Nat, q < H.size → ¬ A1 q → H1[q]? = H[q]?) → va_S A0 H0 H1 locs1 → W p l e R s m args below meth c H1 locs1 (cells + mc) (slots + ms) Q (F0 m (pc + 3) ls (.float r :: rest))) : W p l e R s m args below meth c H locs cells slots Q (F0 m pc ls st0) := by
  intro T hT X
  rcases hr T hT X with ⟨v, st₀, t, T', L, h0, X', hL, e1, e2, ⟨⟨r, u, hv, hp, hb⟩, hF⟩, st⟩ | ⟨q, st₀, t, T', L, E, ce, h0, X', hL, e1, e2, ⟨u, hp, hb, hF⟩, hce, hcv, hcl, st⟩
  · cases hv
    obtain ⟨k1, k2, k3⟩ := vx_keep h0 e1 hS hA hf hL hF
    obtain ⟨t2, a1, b1⟩ := kk r u t T'.heap (locs ++ L) e1.symm (by rw [← e2]; exact X'.warmed.alike) hp hb k1 k2 k3 T' rfl X'
    exact ⟨t2, st t2 a1, b1⟩
  · obtain ⟨k1, k2, k3⟩ := vx_keep h0 e1 hS hAX hf hL hF
    obtain ⟨t2, a1, b1⟩ := kx E ce q u t T'.heap (locs ++ L) e1.symm (by rw [← e2]; exact X'.warmed.alike) hp hb k1 k2 k3 (by rw [e1]; exact hce) hcv hcl T' rfl X'
    exact ⟨t2, st.trans a1, b1⟩
theorem vx_calld {S SX : Type} {post : UInt64 → S → Prop} {px : SX → Prop} {B : S → State → Prop} {BX : String → SX → State → Prop} {AX : Nat → Prop} (hr : vx_Run p l e R s m args below meth c H locs cells slots mc ms (F0 m pc ls st0) rest (va_Qd post B A1 a) (vx_X px BX AX) free) (hS : va_S A0 H0 H locs) (hA : ∀ q, q < H.size → A1 q → A0 q) (hf : ∀ q, free q → A0 q) (hAX : ∀ q, q < H.size → AX q → A0 q)
    (kx : ∀ (E : String) (ce : Cell) (q9 : Addr) (u : SX) (t : State) (H1 : Heap) (locs1 : List Loc), t.heap = H1 → s.vm.Alike t.vm → px u → BX E u t → H.size ≤ H1.size → (∀ q : Nat, q < H.size → ¬ AX q → H1[q]? = H[q]?) → va_S A0 H0 H1 locs1 → H1[q9]? = some ce → ce.vm = .none → s.vm.findClass E = some ce.cls → vx_W p l e R s m args below meth c H1 locs1 (cells + mc) (slots + ms) Q (F0 m pc ls rest) q9)
    (kk : ∀ (r : UInt64) (u : S) (t : State) (H1 : Heap) (locs1 : List Loc), t.heap = H1 → s.vm.Alike t.vm → post r u → B u t → H.size ≤ H1.size → (∀ q : Nat, q < H.size → ¬ A1 q → H1[q]? = H[q]?) → va_S A0 H0 H1 locs1 → W p l e R s m args below meth c H1 locs1 (cells + mc) (slots + ms) Q (F0 m (pc + 3) ls (.double r :: rest))) : W p l e R s m args below meth c H locs cells slots Q (F0 m pc ls st0) := by
  intro T hT X
  rcases hr T hT X with ⟨v, st₀, t, T', L, h0, X', hL, e1, e2, ⟨⟨r, u, hv, hp, hb⟩, hF⟩, st⟩ | ⟨q, st₀, t, T', L, E, ce, h0, X', hL, e1, e2, ⟨u, hp, hb, hF⟩, hce, hcv, hcl, st⟩
  · cases hv
    obtain ⟨k1, k2, k3⟩ := vx_keep h0 e1 hS hA hf hL hF
    obtain ⟨t2, a1, b1⟩ := kk r u t T'.heap (locs ++ L) e1.symm (by rw [← e2]; exact X'.warmed.alike) hp hb k1 k2 k3 T' rfl X'
    exact ⟨t2, st t2 a1, b1⟩
  · obtain ⟨k1, k2, k3⟩ := vx_keep h0 e1 hS hAX hf hL hF
    obtain ⟨t2, a1, b1⟩ := kx E ce q u t T'.heap (locs ++ L) e1.symm (by rw [← e2]; exact X'.warmed.alike) hp hb k1 k2 k3 (by rw [e1]; exact hce) hcv hcl T' rfl X'
    exact ⟨t2, st.trans a1, b1⟩
theorem vx_callv {S SX : Type} {post : S → Prop} {px : SX → Prop} {B : S → State → Prop} {BX : String → SX → State → Prop} {AX : Nat → Prop} (hr : vx_Run p l e R s m args below meth c H locs cells slots mc ms (F0 m pc ls st0) rest (va_Qv post B A1 a) (vx_X px BX AX) free) (hS : va_S A0 H0 H locs) (hA : ∀ q, q < H.size → A1 q → A0 q) (hf : ∀ q, free q → A0 q) (hAX : ∀ q, q < H.size → AX q → A0 q)
    (kx : ∀ (E : String) (ce : Cell) (q9 : Addr) (u : SX) (t : State) (H1 : Heap) (locs1 : List Loc), t.heap = H1 → s.vm.Alike t.vm → px u → BX E u t → H.size ≤ H1.size → (∀ q : Nat, q < H.size → ¬ AX q → H1[q]? = H[q]?) → va_S A0 H0 H1 locs1 → H1[q9]? = some ce → ce.vm = .none → s.vm.findClass E = some ce.cls → vx_W p l e R s m args below meth c H1 locs1 (cells + mc) (slots + ms) Q (F0 m pc ls rest) q9)
    (kk : ∀ (u : S) (t : State) (H1 : Heap) (locs1 : List Loc), t.heap = H1 → s.vm.Alike t.vm → post u → B u t → H.size ≤ H1.size → (∀ q : Nat, q < H.size → ¬ A1 q → H1[q]? = H[q]?) → va_S A0 H0 H1 locs1 → W p l e R s m args below meth c H1 locs1 (cells + mc) (slots + ms) Q (F0 m (pc + 3) ls (rest))) : W p l e R s m args below meth c H locs cells slots Q (F0 m pc ls st0) := by
  intro T hT X
  rcases hr T hT X with ⟨v, st₀, t, T', L, h0, X', hL, e1, e2, ⟨⟨u, hv, hp, hb⟩, hF⟩, st⟩ | ⟨q, st₀, t, T', L, E, ce, h0, X', hL, e1, e2, ⟨u, hp, hb, hF⟩, hce, hcv, hcl, st⟩
  · cases hv
    obtain ⟨k1, k2, k3⟩ := vx_keep h0 e1 hS hA hf hL hF
    obtain ⟨t2, a1, b1⟩ := kk u t T'.heap (locs ++ L) e1.symm (by rw [← e2]; exact X'.warmed.alike) hp hb k1 k2 k3 T' rfl X'
    exact ⟨t2, st t2 a1, b1⟩
  · obtain ⟨k1, k2, k3⟩ := vx_keep h0 e1 hS hAX hf hL hF
    obtain ⟨t2, a1, b1⟩ := kx E ce q u t T'.heap (locs ++ L) e1.symm (by rw [← e2]; exact X'.warmed.alike) hp hb k1 k2 k3 (by rw [e1]; exact hce) hcv hcl T' rfl X'
    exact ⟨t2, st.trans a1, b1⟩
/-- caught by the row x of this method's table; the rows ahead don't take it -/
theorem vx_catch {own name : String} {E : String} {ce : Cell} {q : Addr} (hown : s.vm.findClass own = some m.cls) (pre : List ExceptionTableEntry) (x : ExceptionTableEntry) (suf : List ExceptionTableEntry) (hsplit : c.exceptionTable.toList = pre ++ x :: suf)
    (hpass : ∀ z ∈ pre, covers z pc = false ∨ (z.catchType ≠ 0 ∧ ∃ nm : String, (Cond.classLink own z.catchType nm).before args s = true ∧ va_Nc E nm s)) (hx : covers x pc = true) (h0 : x.catchType ≠ 0)
    (hlink : (Cond.classLink own x.catchType name).before args s = true) (hcast : (Cond.castable E name).before args s = true) (hcell : H[q]? = some ce) (hv : ce.vm = .none) (hcl : s.vm.findClass E = some ce.cls)
    (kk : W p l e R s m args below meth c H locs cells slots Q (F0 m x.handlerPc ls [.ref q])) : vx_W p l e R s m args below meth c H locs cells slots Q (F0 m pc ls rest) q := by
  intro T hT X
  have hpl : e.platform.magicAccessors = ({} : Platform).magicAccessors := by rw [X.admits.platform]
  obtain ⟨c3, c4, hc3, hc4, hasg⟩ := Cond.castable_spec hcast
  cases Option.some.inj (hc3.symm.trans hcl)
  obtain ⟨c5, hc5, hcl5⟩ := Cond.classLink_spec hown hlink e.platform hpl
  cases Option.some.inj (hc4.symm.trans hc5)
  obtain ⟨vm', X', st⟩ := X.thenCaughtThrough q (g := F0 m pc ls rest) rfl (Steps.refl _) (by rw [hT]; exact hcell) (by rw [hv]; rfl) (by obtain ⟨k9, h9, -⟩ := Vm.findClass_spec hcl; exact ⟨k9, h9⟩) pre x suf hsplit
    (fun z hz => by
      rcases hpass z hz with h | ⟨hz0, nm, hl1, hn1⟩
      · exact Or.inl h
      · obtain ⟨c6, hc6, hcl6⟩ := Cond.classLink_spec hown hl1 e.platform hpl
        obtain ⟨a8, b8, h1, h2, h3⟩ := hn1
        cases Option.some.inj (h1.symm.trans hcl)
        cases Option.some.inj (h2.symm.trans hc6)
        exact Or.inr ⟨hz0, _, hcl6, h3⟩) hx (Or.inr ⟨h0, c4, hcl5, hasg⟩)
  obtain ⟨t, a1, b1⟩ := kk (T.setVm vm') hT X'
  exact ⟨t, st.trans a1, b1⟩
end Rows
section Ends
variable {p : Program} {l : Launch} {e : Env} {R : Room} {s : State} {m : MethodId} {args : Array Value} {below : List Frame} {meth : Method} {c : Code} {H : Heap} {locs : List Loc} {cells slots : Nat} {Q : State → Prop}
variable {mc ms : Nat} {free : Addr → Prop} {A0 A1 : Nat → Prop} {H0 : Heap} {a : Array Value} {ls : Array Slot} {st0 rest : List Value}
variable {Qc : Array Value → State → Outcome → State → Prop} {XC : String → State → State → Prop}
/-- what a body that may throw owes at its end -/
def vx_MQ (below : List Frame) (Qc : Array Value → State → Outcome → State → Prop) (XC : String → State → State → Prop) (a : Array Value) (s : State) (mc ms : Nat) (free : Addr → Prop) : State → Prop := fun t =>
  ∃ o, t.status = .running ∧ Ended t below o ∧ vx_Q Qc XC mc ms free a s o t
theorem vx_ret {g : JFrame} {mc ms : Nat} (k : W p l e R s m args below meth c H locs cells slots (MQ below Qc args s mc ms free) g) : W p l e R s m args below meth c H locs cells slots (vx_MQ below Qc XC args s mc ms free) g := by
  intro T hT X
  obtain ⟨t, a1, o, b1, b2, b3, b4⟩ := k T hT X
  exact ⟨t, a1, o, b1, b2, Or.inl ⟨b3, b4⟩⟩
/-- not caught here: it goes on to the caller -/
theorem vx_widen {g : JFrame} {q : Addr} {k n : Nat} (h1 : cells ≤ k) (h2 : slots ≤ n) (kk : vx_W p l e R s m args below meth c H locs k n Q g q) : vx_W p l e R s m args below meth c H locs cells slots Q g q := fun T hT X => kk T hT (stand_widen X h1 h2)
theorem vx_out {pc : Nat} {E : String} {ce : Cell} {q : Addr} {mc ms : Nat} (hout : ∀ x ∈ c.exceptionTable.toList, covers x pc = false) (hlocks : meth.locks = false) (hcell : H[q]? = some ce) (hv : ce.vm = .none) (hcl : s.vm.findClass E = some ce.cls)
    (hx : ∀ t : State, t.heap = H → s.vm.Alike t.vm → XC E s t) (hf : ∀ z ∈ locs, free z.base) (hc : cells ≤ mc) (hs : slots ≤ ms) :
    vx_W p l e R s m args below meth c H locs cells slots (vx_MQ below Qc XC args s mc ms free) (F0 m pc ls rest) q := by
  intro T hT X
  obtain ⟨st1, hrun, hend, hW, hsm⟩ := X.leaveThrown q (g := F0 m pc ls rest) rfl rfl rfl hout hlocks
  have hcell9 : (T.setFrames (.throwing q :: below)).heap[q]? = some ce := by
    show T.heap[q]? = some ce
    rw [hT]; exact hcell
  exact ⟨_, st1, .threw q, hrun, hend, Or.inr ⟨q, rfl, E, ce, locs, hx _ hT hW.alike, hcell9, hv, hcl, hW, hsm.mono hc hs, hf⟩⟩
theorem vx_frame {U : State} {k n : Nat} (h : s.sameButNew ({ U with vm := s.vm } : State) locs k n) : s.heap.size ≤ U.heap.size ∧ ∀ q : Nat, q < s.heap.size → (∀ z ∈ locs, z.base ≠ q) → U.heap[q]? = s.heap[q]? := by
  obtain ⟨-, h2, -, -, -, h6⟩ := h
  refine ⟨h2, fun q hq hz => ?_⟩
  obtain ⟨c9, e1, e2, e3, e4⟩ := h6 q _ (Array.getElem?_eq_getElem hq)
  have hs : c9.slots = (s.heap[q]).slots := Array.ext_getElem? fun i => e4 i fun hm => hz _ hm rfl
  have h9 : c9 = s.heap[q] := by
    rw [hs] at e2
    exact e2
  have e5 : U.heap[q]? = some c9 := e1
  rw [e5, h9, Array.getElem?_eq_getElem hq]
/-- the words of a throw but the four that speak of the heap -/
def vx_no (w : Cond) : Bool := decide (w ≠ .isRef (.static Bundle.tN "UNASSIGNED_STACK" Bundle.steD)) && decide (w ≠ .isRef (.static Bundle.tN "SUPPRESSED_SENTINEL" Bundle.listD)) && decide (w ≠ .laysStatic Bundle.tN "UNASSIGNED_STACK" Bundle.steD) && decide (w ≠ .laysStatic Bundle.tN "SUPPRESSED_SENTINEL" Bundle.listD)
def vx_at0 (own : String) (ic : Nat) (X : String) (names : List String) : List Cond := (Bundle.ownAtoms0 own ic X names).filter vx_no
def vx_atS (own : String) (ic : Nat) (X : String) (names : List String) : List Cond := (Bundle.ownAtoms own ic X names).filter vx_no
/-- a word that the tables alone decide, or a good one -/
def vx_ot (w : Cond) : Bool := w.onTables || goodWord w
theorem vx_ot_at {args a' : Array Value} {s U : State} {w : Cond} (hW : s.WarmedH U.vm) (hvm : s.vm = U.vm) (hg : vx_ot w = true) (h : w.before args s = true) : w.before a' U = true := by
  simp only [vx_ot, Bool.or_eq_true] at hg
  rcases hg with hg | hg
  · exact va_tabs hg hvm h
  · exact word_at hW (good_of_word hg) h
/-- a list's words: the good ones out of the method's own list, the others by premises of their own -/
theorem vx_hat {args : Array Value} {s : State} {L B : List Cond} (h1 : ∀ w ∈ L.filter goodWord, w.before args s = true) (h2 : ∀ w ∈ L.filter (fun w => !goodWord w), w ∈ B) (h3 : ∀ w ∈ B, w.before args s = true) : ∀ w ∈ L, w.before args s = true := by
  intro w hw
  by_cases g : goodWord w = true
  · exact h1 w (List.mem_filter.mpr ⟨hw, g⟩)
  · refine h3 w (h2 w (List.mem_filter.mpr ⟨hw, ?_⟩))
    show (!goodWord w) = true
    cases hgw : goodWord w
    · rfl
    · exact absurd hgw g
theorem vx_c {args : Array Value} {s : State} {w : Cond} {B : List Cond} (h : w.before args s = true) (t : ∀ w ∈ B, w.before args s = true) : ∀ w' ∈ w :: B, w'.before args s = true := fun w' h' => (List.mem_cons.mp h').elim (fun e => by rw [e]; exact h) (t w')
theorem vx_n {args : Array Value} {s : State} : ∀ w ∈ ([] : List Cond), w.before args s = true := fun _ h => nomatch h
theorem vx_own {args : Array Value} {s : State} {L : List Cond} (h1 : ∀ w ∈ L.filter vx_no, w.before args s = true)
    (hU : (Cond.isRef (.static Bundle.tN "UNASSIGNED_STACK" Bundle.steD)).before args s = true) (hN : (Cond.isRef (.static Bundle.tN "SUPPRESSED_SENTINEL" Bundle.listD)).before args s = true)
    (lU : (Cond.laysStatic Bundle.tN "UNASSIGNED_STACK" Bundle.steD).before args s = true) (lN : (Cond.laysStatic Bundle.tN "SUPPRESSED_SENTINEL" Bundle.listD).before args s = true) : ∀ w ∈ L, w.before args s = true := by
  intro w hw
  by_cases e1 : w = .isRef (.static Bundle.tN "UNASSIGNED_STACK" Bundle.steD)
  · rw [e1]; exact hU
  · by_cases e2 : w = .isRef (.static Bundle.tN "SUPPRESSED_SENTINEL" Bundle.listD)
    · rw [e2]; exact hN
    · by_cases e3 : w = .laysStatic Bundle.tN "UNASSIGNED_STACK" Bundle.steD
      · rw [e3]; exact lU
      · by_cases e4 : w = .laysStatic Bundle.tN "SUPPRESSED_SENTINEL" Bundle.listD
        · rw [e4]; exact lN
        · exact h1 w (List.mem_filter.mpr ⟨hw, by unfold vx_no; rw [decide_eq_true e1, decide_eq_true e2, decide_eq_true e3, decide_eq_true e4]; rfl⟩)
/-- where a static field lies, its class's statics cell in H -/
def vx_L (C n d : String) (A : Nat → Prop) (U : State) (H : Heap) : Prop := ∃ (c : ClassId) (k : Class) (i : Nat) (f : Field) (a : Nat) (cell : Cell), U.vm.findClass C = some c ∧ U.fieldFound? C n d = some (c, k, i, f) ∧ f.isStatic = true ∧ k.statics = some a ∧ H[a]? = some cell ∧ cell.vm.isStatics = true ∧ cell.cls = c ∧ f.slot < cell.slots.size ∧ k.staticTypes[f.slot]? = some f.type ∧ ¬ A a
theorem vx_L.moved {C n d : String} {A : Nat → Prop} {u U : State} {H : Heap} (hvm : u.vm.Alike U.vm) (h : vx_L C n d A u H) : vx_L C n d A U H := by
  obtain ⟨c, k, i, f, a, cell, h1, h2, h3, h4, h5, h6, h7, h8, h9, h10⟩ := h
  obtain ⟨k', hi', he⟩ := State.fieldFound?_setVm hvm h2
  exact ⟨c, k', i, f, a, cell, by rw [hvm.findClass]; exact h1, hi', h3, by rw [he]; exact h4, h5, h6, h7, h8, by rw [he]; exact h9, h10⟩
theorem vx_L.kept {C n d : String} {A : Nat → Prop} {U : State} {H H1 : Heap} (h : vx_L C n d A U H) (hq : ∀ a : Nat, a < H.size → ¬ A a → H1[a]? = H[a]?) : vx_L C n d A U H1 := by
  obtain ⟨c, k, i, f, a, cell, h1, h2, h3, h4, h5, h6, h7, h8, h9, h10⟩ := h
  exact ⟨c, k, i, f, a, cell, h1, h2, h3, h4, by rw [hq a (Array.getElem?_eq_some_iff.mp h5).1 h10]; exact h5, h6, h7, h8, h9, h10⟩
theorem vx_L.narrow {C n d : String} {A B : Nat → Prop} {U : State} {H : Heap} (h : vx_L C n d A U H) (hAB : ∀ q, B q → A q) : vx_L C n d B U H := by
  obtain ⟨c, k, i, f, a, cell, h1, h2, h3, h4, h5, h6, h7, h8, h9, h10⟩ := h
  exact ⟨c, k, i, f, a, cell, h1, h2, h3, h4, h5, h6, h7, h8, h9, fun z => h10 (hAB _ z)⟩
theorem vx_L.word {C n d : String} {A : Nat → Prop} {s : State} {args : Array Value} (h : vx_L C n d A s s.heap) : (Cond.laysStatic C n d).before args s = true := by
  obtain ⟨c, k, i, f, a, cell, h1, h2, h3, h4, h5, h6, h7, h8, h9, -⟩ := h
  show (Cond.laysStatic C n d).holds args s none s [] = true
  exact Cond.laysStatic_of h1 h2 h3 h4 h5 h6 h7 h8 h9
/-- .. and what it holds: null or some reference -/
def vx_Zq (C n d : String) (A : Nat → Prop) (U : State) (H : Heap) : Prop := va_Zq C n d A U H ∧ vx_L C n d A U H
theorem vx_Zq.moved {C n d : String} {A : Nat → Prop} {u U : State} {H : Heap} (hvm : u.vm.Alike U.vm) (h : vx_Zq C n d A u H) : vx_Zq C n d A U H := ⟨va_Zq.moved hvm h.1, vx_L.moved hvm h.2⟩
theorem vx_Zq.kept {C n d : String} {A : Nat → Prop} {U : State} {H H1 : Heap} (h : vx_Zq C n d A U H) (hq : ∀ a : Nat, a < H.size → ¬ A a → H1[a]? = H[a]?) : vx_Zq C n d A U H1 := ⟨va_Zq.kept h.1 hq, vx_L.kept h.2 hq⟩
theorem vx_Zq.narrow {C n d : String} {A B : Nat → Prop} {U : State} {H : Heap} (h : vx_Zq C n d A U H) (hAB : ∀ q, B q → A q) : vx_Zq C n d B U H := ⟨va_Zq.narrow h.1 hAB, vx_L.narrow h.2 hAB⟩
theorem vx_Zqof {args : Array Value} {s : State} {C n d : String} {A : Nat → Prop} (hl : (Cond.laysStatic C n d).before args s = true) (hini : (Cond.initialized C).before args s = true) (h : (Cond.isRef (.static C n d)).before args s = true) (hA : ∀ a : Nat, a < s.heap.size → ¬ A a) : vx_Zq C n d A s s.heap := by
  refine ⟨va_Zqof hl hini h hA, ?_⟩
  obtain ⟨c, k, i, f, a, cell, h1, h2, h3, h4, h5, h6, h7, h8, h9⟩ := Cond.laysStatic_spec hl
  exact ⟨c, k, i, f, a, cell, h1, h2, h3, h4, h5, h6, h7, h8, h9, hA a (Array.getElem?_eq_some_iff.mp h5).1⟩
theorem vx_isRef {C n d : String} {v : Value} {A : Nat → Prop} {s : State} {args : Array Value} (h : va_Z C n d v A s s.heap) (hv : v.isRef = true) : (Cond.isRef (.static C n d)).before args s = true := by
  obtain ⟨cf, kf, fi, f, a, cell, h1, h2, h3, h4, h5, h6, h7, -⟩ := h
  have he : (Term.static C n d).eval args s none [] s = some v := by
    simp [Term.eval, State.fieldNamed?, h1, h2, h4, h5, h6, h7]
  simp only [Cond.before, Cond.holds, Cond.value, he]
  cases v <;> simp_all [Value.isRef]
theorem vx_isRefq {C n d : String} {A : Nat → Prop} {s : State} {args : Array Value} (h : va_Zq C n d A s s.heap) : (Cond.isRef (.static C n d)).before args s = true := by
  rcases h with h | ⟨t, h⟩
  · exact vx_isRef h rfl
  · exact vx_isRef h rfl
/-- the same frame, seen from here: as if the method were called anew in this heap -/
theorem vx_rebase {T : State} (X : Stand p l e R s m args below meth c T locs cells slots) {R' : Room} (hf : R'.frames ≤ R.frames) (hl : R'.locals ≤ R.locals) (hc : cells + R'.cells ≤ R.cells) (hs : slots + R'.slots ≤ R.slots) :
    Stand p l e R' ((T.setVm s.vm).setFrames (.invoking m args :: below)) m args below meth c T [] 0 0 := by
  have htop : (T.setVm s.vm).topJava?.isSome := X.here.top
  have hF : ((T.setVm s.vm).setFrames (.invoking m args :: below)).frames = .invoking m args :: below := State.frames_setFrames _ (State.cur_lt_of_top htop)
  obtain ⟨g₀, hg0⟩ := Option.isSome_iff_exists.mp htop
  obtain ⟨r, hr⟩ := State.topJava?_eq_some.mp hg0
  have hl9 : e.platform.stackLimits (T.setVm s.vm).me = e.platform.stackLimits s.me := X.limits
  have hb9 : (T.setVm s.vm).me.stackBytes = s.me.stackBytes := X.bytes
  refine ⟨X.admits, X.cas, X.clock, hF, ?_, X.hears, X.method, X.code, X.here, X.tail, X.warmed, ?_, ?_, ?_⟩
  · have h := X.room
    have hU : ((T.setVm s.vm).setFrames (.invoking m args :: below)).localsInUse = s.localsInUse := by
      rw [State.localsInUse_invoking hF (meth := meth) (c := c) X.method X.code, State.localsInUse_invoking X.frames X.method X.code]
    simp only [State.hasRoom, Bool.and_eq_true, decide_eq_true_eq] at h ⊢
    obtain ⟨⟨⟨⟨h1, h2, h3, h4, h5, h6⟩, h7⟩, h8⟩, h9⟩ := h
    rw [X.frames, List.length_cons] at h2 h3
    have q1 := X.heapSize
    have q2 := X.used
    simp only [hF, hU, List.length_cons, State.stackLimits_setFrames, State.stackBytes_setFrames, hl9, hb9]
    refine ⟨⟨⟨⟨by omega, by omega, by omega, by omega, by omega, h6⟩, ?_⟩, ?_⟩, X.book⟩
    · show T.heap.size + R'.cells ≤ e.platform.maxCells
      omega
    · show T.slotsUsed + R'.slots ≤ e.platform.maxSlots
      omega
  · rw [State.stackLimits_setFrames]; rfl
  · rw [State.stackBytes_setFrames]; rfl
  · refine ⟨?_, Nat.le_refl _, Nat.le_refl _, ?_, ?_, fun a c9 h9 => ⟨c9, h9, rfl, rfl, fun _ _ => rfl⟩⟩
    · obtain ⟨t, ht, -⟩ := State.frames_cons hr
      show T.setVm s.vm = { ((T.setVm s.vm).setFrames (.invoking m args :: below)).setFrames (T.setVm s.vm).frames with heap := T.heap, slotsUsed := T.slotsUsed }
      rw [State.setFrames_setFrames, State.setFrames_self ht]
      rfl
    · show T.slotsUsed = T.slotsUsed + ((T.heap.toList.drop T.heap.size).map (·.slots.size)).sum
      rw [List.drop_eq_nil_of_le (Nat.le_of_eq Array.length_toList)]
      rfl
    · show ((T.heap.toList.drop T.heap.size).map (·.slots.size)).sum ≤ 0
      rw [List.drop_eq_nil_of_le (Nat.le_of_eq Array.length_toList)]
      exact Nat.le_refl _
/-- 'throw new E()': new; dup; invokespecial; athrow -/
theorem vx_throw0 {cc : ByteArray} {pc : Nat} (hexec : p.tables.exec = Jvm.exec) (hb : c.code = cc) (hl : l.stackTraces = false) {own cls : String} {names : List String} {ik ic mc ms : Nat} {A : Nat → Prop}
    (hown : s.vm.findClass own = some m.cls) (hcls : Bundle.fit cls = true) (hnames : ∀ n ∈ names, Bundle.fit n = true)
    (hk : (Cond.classLink own ik cls).before args s = true) (hini : (Cond.initialized cls).before args s = true) (hat : ∀ w ∈ vx_at0 own ic cls names, w.before args s = true)
    (hgood : ∀ w ∈ Cond.classLink own ik cls :: Cond.initialized cls :: vx_at0 own ic cls names, vx_ot w = true)
    (hU : vx_Zq Bundle.tN "UNASSIGNED_STACK" Bundle.steD A s s.heap) (hN : vx_Zq Bundle.tN "SUPPRESSED_SENTINEL" Bundle.listD A s s.heap) (hS : va_S A s.heap H locs) (hsize : ls.size = c.maxLocals)
    (d0 : decode cc pc = .ok (.new ik, 3)) (d3 : decode cc (pc + 3) = .ok (.dup, 1)) (d4 : decode cc (pc + 4) = .ok (.invokespecial ic, 3)) (d7 : decode cc (pc + 7) = .ok (.athrow, 1))
    (hout : ∀ x ∈ c.exceptionTable.toList, covers x (pc + 7) = false)
    (hRframes : names.length + 3 < R.frames) (hRlocals : (rest.map fun v => v.category).sum + (13 * (names.length + 1) + 42) ≤ R.locals) (hRcells : cells + 1 ≤ R.cells) (hRslots : slots + 6 ≤ R.slots) (hlocks : meth.locks = false)
    (hx : ∀ t : State, s.vm.Alike t.vm → H.size ≤ t.heap.size → (∀ q : Nat, q < H.size → t.heap[q]? = H[q]?) → XC cls s t)
    (hf : ∀ z ∈ locs, free z.base) (hc : cells + 1 ≤ mc) (hs : slots + 6 ≤ ms) :
    W p l e R s m args below meth c H locs cells slots (vx_MQ below Qc XC args s mc ms free) (F0 m pc ls rest) := by
  intro T hT X
  have htr : e.platform.stackTraces = false := (show e.platform.stackTraces = l.stackTraces by rw [X.admits.platform]).trans hl
  have Y := vx_rebase X (R' := { frames := R.frames, locals := R.locals, cells := 1, slots := 6 }) (Nat.le_refl _) (Nat.le_refl _) hRcells hRslots
  obtain ⟨s', hA⟩ : ∃ z, z = (T.setVm s.vm).setFrames (.invoking m args :: below) := ⟨_, rfl⟩
  rw [← hA] at Y
  have hvm : s'.vm = s.vm := by rw [hA]; rfl
  have hhp : s'.heap = H := by rw [hA]; exact hT
  have hW0 : s.WarmedH s'.vm := by rw [hvm]; exact State.WarmedH.refl s
  have hat' : ∀ w ∈ vx_at0 own ic cls names, w.before args s' = true := fun w hw => vx_ot_at hW0 hvm.symm (hgood w (List.mem_cons_of_mem _ (List.mem_cons_of_mem _ hw))) (hat w hw)
  have hk' : (Cond.classLink own ik cls).before args s' = true := vx_ot_at hW0 hvm.symm (hgood _ List.mem_cons_self) hk
  have hini' : (Cond.initialized cls).before args s' = true := vx_ot_at hW0 hvm.symm (hgood _ (List.mem_cons_of_mem _ List.mem_cons_self)) hini
  have hU' : vx_Zq Bundle.tN "UNASSIGNED_STACK" Bundle.steD A s' s'.heap := by rw [hhp]; exact vx_Zq.moved hW0.alike (hU.kept hS.2.1)
  have hN' : vx_Zq Bundle.tN "SUPPRESSED_SENTINEL" Bundle.listD A s' s'.heap := by rw [hhp]; exact vx_Zq.moved hW0.alike (hN.kept hS.2.1)
  have h : ∀ w ∈ Bundle.ownAtoms0 own ic cls names, w.before args s' = true := vx_own hat' (vx_isRefq hU'.1) (vx_isRefq hN'.1) hU'.2.word hN'.2.word
  have hown' : s'.vm.findClass own = some m.cls := by rw [hvm]; exact hown
  have hins : (Cond.instantiable cls 6).before args s' = true := h _ (by simp [Bundle.ownAtoms0])
  obtain ⟨vm₁, cX, kX, hfX, hkX, -, -, X₁, st1⟩ := Y.newCold hexec (own := own) (C := cls) (index := ik) (n := 6) hown' hk' hins hini'
    (g := F0 m pc ls rest) rfl (by rw [hb]; exact d0) (Nat.le_refl _) (Nat.le_refl _)
  generalize hT1 : (T.setVm vm₁).pushCell { cls := cX, slots := kX.instanceTypes.map defaultValue, vm := .none } = T1 at X₁ st1
  have hcat : (Value.ref T.heap.size).category = 1 := rfl
  have hcellA : T1.heap[T.heap.size]? = some (freshCell cX kX) := by rw [← hT1]; exact State.heap_pushCell_size _ _
  have d3' : decode c.code (pc + 3) = .ok (.dup, 1) := by rw [hb]; exact d3
  obtain ⟨U, hsteps, hrun, hend, hW, hsame, ce, hce, hO⟩ := X₁.ctorThrow0 hexec htr (own := own) (cls := cls) (names := names) (ic := ic) hown' hcls hnames h (fun x hx => nomatch hx) hfX hkX hcellA (by rw [hhp, hT]; exact Nat.le_refl _)
    (g := { method := m, pc := pc + 4, locals := ls, stack := .ref T.heap.size :: .ref T.heap.size :: rest, locked := none }) rfl hsize rfl rfl (rest := rest) rfl
    (by rw [hb]; exact d4) (by rw [hb]; exact d7) hout hRframes (by simp only [List.map_cons, List.sum_cons, hcat]; omega) hlocks
  obtain ⟨f1, f2⟩ := vx_frame hsame
  rw [hhp] at f1 f2
  have hWs : s.WarmedH U.vm := State.WarmedH.trans hW0 hW
  have hcl : s.vm.findClass cls = some ce.cls := by
    have h9 := hO.cls
    rw [hvm] at h9
    exact h9
  have hall : s.sameButNew ({ U with vm := s.vm } : State) locs mc ms := by
    subst hA
    obtain ⟨e1, e2⟩ := hsame
    rw [State.setFrames_setFrames] at e1
    have h2 : (T.setVm s.vm).sameButNew ({ U with vm := s.vm } : State) [] (0 + 1) (0 + 6) := ⟨e1, e2⟩
    have h3 := X.same.trans h2
    rw [List.append_nil] at h3
    exact h3.mono hc hs
  refine ⟨U, ?_, .threw T.heap.size, hrun, hend, Or.inr ⟨T.heap.size, rfl, cls, ce, locs, hx U hWs.alike f1 (fun q hq => f2 q hq (fun z hz => nomatch hz)), hce, hO.vm, hcl, hWs, hall, hf⟩⟩
  refine st1 _ ?_
  show Steps p.tables e below (T1.setTop { method := m, pc := pc + 3, locals := ls, stack := .ref T.heap.size :: rest, locked := none }) _
  jvm_step X₁.here [X₁.here.top, hexec, d3', Value.category]
  exact hsteps
/-- 'throw new E("text")': new; dup; ldc; invokespecial; athrow -/
theorem vx_throwS {cc : ByteArray} {pc : Nat} (hexec : p.tables.exec = Jvm.exec) (hb : c.code = cc) (hl : l.stackTraces = false) {own cls text : String} {names : List String} {ik is ic mc ms sa : Nat} {A : Nat → Prop}
    (hown : s.vm.findClass own = some m.cls) (hcls : Bundle.fit cls = true) (hnames : ∀ n ∈ names, Bundle.fit n = true)
    (hk : (Cond.classLink own ik cls).before args s = true) (hini : (Cond.initialized cls).before args s = true) (hstr : vk_R own is text sa s) (hat : ∀ w ∈ vx_atS own ic cls names, w.before args s = true)
    (hgood : ∀ w ∈ Cond.classLink own ik cls :: Cond.initialized cls :: vx_atS own ic cls names, vx_ot w = true)
    (hU : vx_Zq Bundle.tN "UNASSIGNED_STACK" Bundle.steD A s s.heap) (hN : vx_Zq Bundle.tN "SUPPRESSED_SENTINEL" Bundle.listD A s s.heap) (hS : va_S A s.heap H locs) (hsize : ls.size = c.maxLocals)
    (d0 : decode cc pc = .ok (.new ik, 3)) (d3 : decode cc (pc + 3) = .ok (.dup, 1)) (d4 : decode cc (pc + 4) = .ok (.ldc is, 2)) (d6 : decode cc (pc + 6) = .ok (.invokespecial ic, 3)) (d9 : decode cc (pc + 9) = .ok (.athrow, 1))
    (hout : ∀ x ∈ c.exceptionTable.toList, covers x (pc + 9) = false)
    (hRframes : names.length + 3 < R.frames) (hRlocals : (rest.map fun v => v.category).sum + (13 * (names.length + 1) + 43) ≤ R.locals) (hRcells : cells + 1 ≤ R.cells) (hRslots : slots + 6 ≤ R.slots) (hlocks : meth.locks = false)
    (hx : ∀ t : State, s.vm.Alike t.vm → H.size ≤ t.heap.size → (∀ q : Nat, q < H.size → t.heap[q]? = H[q]?) → XC cls s t)
    (hf : ∀ z ∈ locs, free z.base) (hc : cells + 1 ≤ mc) (hs : slots + 6 ≤ ms) :
    W p l e R s m args below meth c H locs cells slots (vx_MQ below Qc XC args s mc ms free) (F0 m pc ls rest) := by
  intro T hT X
  have htr : e.platform.stackTraces = false := (show e.platform.stackTraces = l.stackTraces by rw [X.admits.platform]).trans hl
  have Y := vx_rebase X (R' := { frames := R.frames, locals := R.locals, cells := 1, slots := 6 }) (Nat.le_refl _) (Nat.le_refl _) hRcells hRslots
  obtain ⟨s', hA⟩ : ∃ z, z = (T.setVm s.vm).setFrames (.invoking m args :: below) := ⟨_, rfl⟩
  rw [← hA] at Y
  have hvm : s'.vm = s.vm := by rw [hA]; rfl
  have hhp : s'.heap = H := by rw [hA]; exact hT
  have hW0 : s.WarmedH s'.vm := by rw [hvm]; exact State.WarmedH.refl s
  have hat' : ∀ w ∈ vx_atS own ic cls names, w.before args s' = true := fun w hw => vx_ot_at hW0 hvm.symm (hgood w (List.mem_cons_of_mem _ (List.mem_cons_of_mem _ hw))) (hat w hw)
  have hk' : (Cond.classLink own ik cls).before args s' = true := vx_ot_at hW0 hvm.symm (hgood _ List.mem_cons_self) hk
  have hini' : (Cond.initialized cls).before args s' = true := vx_ot_at hW0 hvm.symm (hgood _ (List.mem_cons_of_mem _ List.mem_cons_self)) hini
  have hU' : vx_Zq Bundle.tN "UNASSIGNED_STACK" Bundle.steD A s' s'.heap := by rw [hhp]; exact vx_Zq.moved hW0.alike (hU.kept hS.2.1)
  have hN' : vx_Zq Bundle.tN "SUPPRESSED_SENTINEL" Bundle.listD A s' s'.heap := by rw [hhp]; exact vx_Zq.moved hW0.alike (hN.kept hS.2.1)
  have h : ∀ w ∈ Bundle.ownAtoms own ic cls names, w.before args s' = true := vx_own hat' (vx_isRefq hU'.1) (vx_isRefq hN'.1) hU'.2.word hN'.2.word
  have hown' : s'.vm.findClass own = some m.cls := by rw [hvm]; exact hown
  have hins : (Cond.instantiable cls 6).before args s' = true := h _ (by simp [Bundle.ownAtoms])
  obtain ⟨vm₁, cX, kX, hfX, hkX, -, -, X₁, st1⟩ := Y.newCold hexec (own := own) (C := cls) (index := ik) (n := 6) hown' hk' hins hini'
    (g := F0 m pc ls rest) rfl (by rw [hb]; exact d0) (Nat.le_refl _) (Nat.le_refl _)
  generalize hT1 : (T.setVm vm₁).pushCell { cls := cX, slots := kX.instanceTypes.map defaultValue, vm := .none } = T1 at X₁ st1
  have hcat : (Value.ref T.heap.size).category = 1 := rfl
  have hcellA : T1.heap[T.heap.size]? = some (freshCell cX kX) := by rw [← hT1]; exact State.heap_pushCell_size _ _
  have d3' : decode c.code (pc + 3) = .ok (.dup, 1) := by rw [hb]; exact d3
  have d4' : decode c.code (pc + 4) = .ok (.ldc is, 2) := by rw [hb]; exact d4
  have hstr' : vk_R own is text sa s' := vk_R.warm hW0 hstr
  obtain ⟨U, hsteps, hrun, hend, hW, hsame, ce, hce, hO⟩ := X₁.ctorThrowS hexec htr (own := own) (cls := cls) (names := names) (ic := ic) hown' hcls hnames h (fun x hx => nomatch hx) hfX hkX hcellA (by rw [hhp, hT]; exact Nat.le_refl _) (msg := .ref sa) rfl
    (g := { method := m, pc := pc + 6, locals := ls, stack := .ref sa :: .ref T.heap.size :: .ref T.heap.size :: rest, locked := none }) rfl hsize rfl rfl (rest := rest) rfl
    (by rw [hb]; exact d6) (by rw [hb]; exact d9) hout hRframes (by simp only [List.map_cons, List.sum_cons, hcat]; omega) hlocks
  obtain ⟨f1, f2⟩ := vx_frame hsame
  rw [hhp] at f1 f2
  have hWs : s.WarmedH U.vm := State.WarmedH.trans hW0 hW
  have hcl : s.vm.findClass cls = some ce.cls := by
    have h9 := hO.cls
    rw [hvm] at h9
    exact h9
  have hall : s.sameButNew ({ U with vm := s.vm } : State) locs mc ms := by
    subst hA
    obtain ⟨e1, e2⟩ := hsame
    rw [State.setFrames_setFrames] at e1
    have h2 : (T.setVm s.vm).sameButNew ({ U with vm := s.vm } : State) [] (0 + 1) (0 + 6) := ⟨e1, e2⟩
    have h3 := X.same.trans h2
    rw [List.append_nil] at h3
    exact h3.mono hc hs
  refine ⟨U, ?_, .threw T.heap.size, hrun, hend, Or.inr ⟨T.heap.size, rfl, cls, ce, locs, hx U hWs.alike f1 (fun q hq => f2 q hq (fun z hz => nomatch hz)), hce, hO.vm, hcl, hWs, hall, hf⟩⟩
  refine st1 _ ?_
  show Steps p.tables e below (T1.setTop { method := m, pc := pc + 3, locals := ls, stack := .ref T.heap.size :: rest, locked := none }) _
  jvm_step X₁.here [X₁.here.top, hexec, d3', Value.category]
  exact X₁.ldcString hexec (own := own) (text := text) (index := is) (a := sa) hown' hstr'.1 hstr'.2
    (g := { method := m, pc := pc + 4, locals := ls, stack := .ref T.heap.size :: .ref T.heap.size :: rest, locked := none }) rfl d4' _ hsteps
/-- 'throw new E("text")', the text by a wide index -/
theorem vx_throwSW {cc : ByteArray} {pc : Nat} (hexec : p.tables.exec = Jvm.exec) (hb : c.code = cc) (hl : l.stackTraces = false) {own cls text : String} {names : List String} {ik is ic mc ms sa : Nat} {A : Nat → Prop}
    (hown : s.vm.findClass own = some m.cls) (hcls : Bundle.fit cls = true) (hnames : ∀ n ∈ names, Bundle.fit n = true)
    (hk : (Cond.classLink own ik cls).before args s = true) (hini : (Cond.initialized cls).before args s = true) (hstr : vk_R own is text sa s) (hat : ∀ w ∈ vx_atS own ic cls names, w.before args s = true)
    (hgood : ∀ w ∈ Cond.classLink own ik cls :: Cond.initialized cls :: vx_atS own ic cls names, vx_ot w = true)
    (hU : vx_Zq Bundle.tN "UNASSIGNED_STACK" Bundle.steD A s s.heap) (hN : vx_Zq Bundle.tN "SUPPRESSED_SENTINEL" Bundle.listD A s s.heap) (hS : va_S A s.heap H locs) (hsize : ls.size = c.maxLocals)
    (d0 : decode cc pc = .ok (.new ik, 3)) (d3 : decode cc (pc + 3) = .ok (.dup, 1)) (d4 : decode cc (pc + 4) = .ok (.ldc_w is, 3)) (d7 : decode cc (pc + 7) = .ok (.invokespecial ic, 3)) (d10 : decode cc (pc + 10) = .ok (.athrow, 1))
    (hout : ∀ x ∈ c.exceptionTable.toList, covers x (pc + 10) = false)
    (hRframes : names.length + 3 < R.frames) (hRlocals : (rest.map fun v => v.category).sum + (13 * (names.length + 1) + 43) ≤ R.locals) (hRcells : cells + 1 ≤ R.cells) (hRslots : slots + 6 ≤ R.slots) (hlocks : meth.locks = false)
    (hx : ∀ t : State, s.vm.Alike t.vm → H.size ≤ t.heap.size → (∀ q : Nat, q < H.size → t.heap[q]? = H[q]?) → XC cls s t)
    (hf : ∀ z ∈ locs, free z.base) (hc : cells + 1 ≤ mc) (hs : slots + 6 ≤ ms) :
    W p l e R s m args below meth c H locs cells slots (vx_MQ below Qc XC args s mc ms free) (F0 m pc ls rest) := by
  intro T hT X
  have htr : e.platform.stackTraces = false := (show e.platform.stackTraces = l.stackTraces by rw [X.admits.platform]).trans hl
  have Y := vx_rebase X (R' := { frames := R.frames, locals := R.locals, cells := 1, slots := 6 }) (Nat.le_refl _) (Nat.le_refl _) hRcells hRslots
  obtain ⟨s', hA⟩ : ∃ z, z = (T.setVm s.vm).setFrames (.invoking m args :: below) := ⟨_, rfl⟩
  rw [← hA] at Y
  have hvm : s'.vm = s.vm := by rw [hA]; rfl
  have hhp : s'.heap = H := by rw [hA]; exact hT
  have hW0 : s.WarmedH s'.vm := by rw [hvm]; exact State.WarmedH.refl s
  have hat' : ∀ w ∈ vx_atS own ic cls names, w.before args s' = true := fun w hw => vx_ot_at hW0 hvm.symm (hgood w (List.mem_cons_of_mem _ (List.mem_cons_of_mem _ hw))) (hat w hw)
  have hk' : (Cond.classLink own ik cls).before args s' = true := vx_ot_at hW0 hvm.symm (hgood _ List.mem_cons_self) hk
  have hini' : (Cond.initialized cls).before args s' = true := vx_ot_at hW0 hvm.symm (hgood _ (List.mem_cons_of_mem _ List.mem_cons_self)) hini
  have hU' : vx_Zq Bundle.tN "UNASSIGNED_STACK" Bundle.steD A s' s'.heap := by rw [hhp]; exact vx_Zq.moved hW0.alike (hU.kept hS.2.1)
  have hN' : vx_Zq Bundle.tN "SUPPRESSED_SENTINEL" Bundle.listD A s' s'.heap := by rw [hhp]; exact vx_Zq.moved hW0.alike (hN.kept hS.2.1)
  have h : ∀ w ∈ Bundle.ownAtoms own ic cls names, w.before args s' = true := vx_own hat' (vx_isRefq hU'.1) (vx_isRefq hN'.1) hU'.2.word hN'.2.word
  have hown' : s'.vm.findClass own = some m.cls := by rw [hvm]; exact hown
  have hins : (Cond.instantiable cls 6).before args s' = true := h _ (by simp [Bundle.ownAtoms])
  obtain ⟨vm₁, cX, kX, hfX, hkX, -, -, X₁, st1⟩ := Y.newCold hexec (own := own) (C := cls) (index := ik) (n := 6) hown' hk' hins hini'
    (g := F0 m pc ls rest) rfl (by rw [hb]; exact d0) (Nat.le_refl _) (Nat.le_refl _)
  generalize hT1 : (T.setVm vm₁).pushCell { cls := cX, slots := kX.instanceTypes.map defaultValue, vm := .none } = T1 at X₁ st1
  have hcat : (Value.ref T.heap.size).category = 1 := rfl
  have hcellA : T1.heap[T.heap.size]? = some (freshCell cX kX) := by rw [← hT1]; exact State.heap_pushCell_size _ _
  have d3' : decode c.code (pc + 3) = .ok (.dup, 1) := by rw [hb]; exact d3
  have d4' : decode c.code (pc + 4) = .ok (.ldc_w is, 3) := by rw [hb]; exact d4
  have hstr' : vk_R own is text sa s' := vk_R.warm hW0 hstr
  obtain ⟨U, hsteps, hrun, hend, hW, hsame, ce, hce, hO⟩ := X₁.ctorThrowS hexec htr (own := own) (cls := cls) (names := names) (ic := ic) hown' hcls hnames h (fun x hx => nomatch hx) hfX hkX hcellA (by rw [hhp, hT]; exact Nat.le_refl _) (msg := .ref sa) rfl
    (g := { method := m, pc := pc + 7, locals := ls, stack := .ref sa :: .ref T.heap.size :: .ref T.heap.size :: rest, locked := none }) rfl hsize rfl rfl (rest := rest) rfl
    (by rw [hb]; exact d7) (by rw [hb]; exact d10) hout hRframes (by simp only [List.map_cons, List.sum_cons, hcat]; omega) hlocks
  obtain ⟨f1, f2⟩ := vx_frame hsame
  rw [hhp] at f1 f2
  have hWs : s.WarmedH U.vm := State.WarmedH.trans hW0 hW
  have hcl : s.vm.findClass cls = some ce.cls := by
    have h9 := hO.cls
    rw [hvm] at h9
    exact h9
  have hall : s.sameButNew ({ U with vm := s.vm } : State) locs mc ms := by
    subst hA
    obtain ⟨e1, e2⟩ := hsame
    rw [State.setFrames_setFrames] at e1
    have h2 : (T.setVm s.vm).sameButNew ({ U with vm := s.vm } : State) [] (0 + 1) (0 + 6) := ⟨e1, e2⟩
    have h3 := X.same.trans h2
    rw [List.append_nil] at h3
    exact h3.mono hc hs
  refine ⟨U, ?_, .threw T.heap.size, hrun, hend, Or.inr ⟨T.heap.size, rfl, cls, ce, locs, hx U hWs.alike f1 (fun q hq => f2 q hq (fun z hz => nomatch hz)), hce, hO.vm, hcl, hWs, hall, hf⟩⟩
  refine st1 _ ?_
  show Steps p.tables e below (T1.setTop { method := m, pc := pc + 3, locals := ls, stack := .ref T.heap.size :: rest, locked := none }) _
  jvm_step X₁.here [X₁.here.top, hexec, d3', Value.category]
  exact X₁.ldcStringW hexec (own := own) (text := text) (index := is) (a := sa) hown' hstr'.1 hstr'.2
    (g := { method := m, pc := pc + 4, locals := ls, stack := .ref T.heap.size :: .ref T.heap.size :: rest, locked := none }) rfl d4' _ hsteps
end Ends
section Bodies
variable {l : Launch}
theorem vx_ofW {y : MethodName} {ws ws' : List Cond} {rm : Room} {Pc : Array Value → State → Prop} {Qc : Array Value → State → Outcome → State → Prop} {XC : String → State → State → Prop} {mc ms : Nat} {free : Addr → Prop} {cc : ByteArray} {maxL : Nat} {ret : Option FieldType}
    (hy : plainName y.cls = true) (hw : ws = Cond.code y cc maxL ret :: ws')
    (body : ∀ p e s m args below meth c s₁, BodyLoose p l y (headSpec ws rm) cc maxL ret e s m args below meth c s₁ → c.maxLocals = maxL → (∀ x ∈ c.exceptionTable.toList, False) → Pc args s →
      W p l e (headSpec ws rm).room s m args below meth c s.heap [] 0 0 (vx_MQ below Qc XC args s mc ms free) (entryFrame m args maxL)) : vx_Met l y ws rm Pc Qc XC mc ms free := by
  refine MetFree.of_bodyS (code := cc) (maxLocals := maxL) (ret := ret) hy ?_ ?_
  · intro args s m h hn
    obtain ⟨meth, c, h1, h2, h3, h4, h5, h6, -, -⟩ := Cond.code_spec hn (atoms_spec (ws := ws) h _ (by rw [hw]; exact List.mem_cons_self))
    exact ⟨meth, c, h1, h2, h3, h4, h5, h6⟩
  · intro p e s m args below meth c s₁ B hml hP _
    have hh0 : s₁.heap = s.heap := by rw [B.state]; rfl
    have ht : ∀ x ∈ c.exceptionTable.toList, False := by
      obtain ⟨meth9, c9, h1, h2, -, -, -, -, h7, -⟩ := Cond.code_spec B.named (atoms_spec (ws := ws) B.pre _ (by rw [hw]; exact List.mem_cons_self))
      cases Option.some.inj (h1.symm.trans B.method)
      cases Option.some.inj (h2.symm.trans (Stand.of_body B).code)
      intro x hx
      rw [Array.isEmpty_iff.mp h7] at hx
      cases hx
    obtain ⟨t, a1, o, b1, b2, b3⟩ := body p e s m args below meth c s₁ B hml ht hP s₁ hh0 (Stand.of_body B)
    exact ⟨t, o, a1, b1, b2, b3⟩
/-- the table of a body with handlers -/
theorem vx_table {p : Program} {x y : MethodName} {S : Spec} {cc bytes : ByteArray} {maxL maxL' : Nat} {ret ret' : Option FieldType} {e : Env} {s s₁ : State} {m : MethodId} {args : Array Value} {below : List Frame} {meth : Method} {c : Code} {hh : List (Nat × Nat × Nat × Nat)}
    (B : BodyLoose p l y S cc maxL ret e s m args below meth c s₁) (h : (Cond.codeWith y bytes maxL' ret' hh).before args s = true) : c.exceptionTable.toList = tableOf hh := by
  obtain ⟨m9, meth9, c9, hn9, h1, h2, -, -, h6, -⟩ := Cond.codeWith_spec h
  cases Option.some.inj (hn9.symm.trans B.named)
  cases Option.some.inj (h1.symm.trans B.method)
  cases Option.some.inj (h2.symm.trans (Stand.of_body B).code)
  rw [← h6, table_eq]
end Bodies
end VXA
/-! ===== END ===== -/
/-! ===== BEGIN a static call of a method with an exception table ===== -/
section VXS
variable {p : Program} {l : Launch} {e : Env} {R : Room} {s : State} {m : MethodId} {args : Array Value} {below : List Frame} {meth : Method} {c : Code} {T : State} {H : Heap} {locs : List Loc} {cells slots : Nat}
abbrev vx_CSW (R : Room) (s : State) (args : Array Value) (own : String) (index : Nat) (y : MethodName) (bytes : ByteArray) (maxL : Nat) (ret : Option FieldType) (hh : List (Nat × Nat × Nat × Nat)) (ws : List Cond) (rm : Room) (mc ms n : Nat) : Prop :=
  (rm.cells = mc ∧ rm.slots = ms ∧ rm.frames + 1 ≤ R.frames ∧ 8 + (maxL + 11) + rm.locals ≤ R.locals ∧ (∀ w ∈ ws, ∀ (a' : Array Value) (U : State), s.WarmedH U.vm → w.before a' U = true) ∧ Cond.codeWith y bytes maxL ret hh ∈ ws) ∧
  (Cond.codeWith y bytes maxL ret hh).before args s = true ∧ (Cond.initialized y.cls).before args s = true ∧ (y.cls ≠ "java/lang/invoke/MethodHandle" ∧ y.cls ≠ "java/lang/invoke/VarHandle") ∧
  (∀ sig, parseMethodDescriptor y.desc = some sig → n = sig.parameters.length) ∧ (Cond.methodLink own index y).before args s = true ∧ (Cond.static y).before args s = true
theorem vx_cwSW {own : String} {index maxL mc ms : Nat} {y : MethodName} {bytes : ByteArray} {ret : Option FieldType} {hh : List (Nat × Nat × Nat × Nat)} {Ts ws ws' : List Cond} {rm : Room} (n : Nat) (ht : ∀ w ∈ Ts, w.before args s = true) (hT : GoodIn Ts (va_wsS own index y ws)) (hw : ws = Cond.codeWith y bytes maxL ret hh :: ws') (hrc : rm.cells = mc) (hrs : rm.slots = ms)
    (hd : y.cls ≠ "java/lang/invoke/MethodHandle" ∧ y.cls ≠ "java/lang/invoke/VarHandle" ∧ (parseMethodDescriptor y.desc).map (fun d => d.parameters.length) = some n) (hR : rm.frames + 1 ≤ R.frames ∧ 8 + (maxL + 11) + rm.locals ≤ R.locals) :
    vx_CSW R s args own index y bytes maxL ret hh ws rm mc ms n := by
  have ok : ∀ w ∈ va_wsS own index y ws, w.before args s = true := fun w h => ht w (hT w h).1
  have hG : GoodIn Ts ws := fun w h => hT w (by unfold va_wsS; exact List.mem_append_right _ h)
  have hc : Cond.codeWith y bytes maxL ret hh ∈ ws := by rw [hw]; exact List.mem_cons_self
  refine ⟨⟨hrc, hrs, hR.1, hR.2, pay_in ht hG, hc⟩, ht _ (hG _ hc).1, ok _ (by simp [va_wsS]), ⟨hd.1, hd.2.1⟩, fun sig h => ?_, ok _ (by simp [va_wsS]), ok _ (by simp [va_wsS])⟩
  have h2 := hd.2.2
  rw [h] at h2
  exact (Option.some.inj h2).symm
theorem vx_callSW (X : Stand p l e R s m args below meth c T locs cells slots) (hexec : p.tables.exec = Jvm.exec) {own : String} {index : Nat} {y : MethodName} {bytes : ByteArray} {maxL : Nat} {ret : Option FieldType} {hh : List (Nat × Nat × Nat × Nat)}
    (hown : s.vm.findClass own = some m.cls) (hlink : (Cond.methodLink own index y).before args s = true) (hstat : (Cond.static y).before args s = true) (hinit : (Cond.initialized y.cls).before args s = true)
    (hcode : (Cond.codeWith y bytes maxL ret hh).before args s = true) (hy : y.cls ≠ "java/lang/invoke/MethodHandle" ∧ y.cls ≠ "java/lang/invoke/VarHandle")
    {W9 : Nat} {Pre : Pt → Array Value → Prop} {Post : Pt → Array Value → Option Value → Pt → Prop} (hK : Back l R p e below s args y 3 W9 Pre Post)
    {g : JFrame} (hg : g.method = m) (hsize : g.locals.size = c.maxLocals) {argsL rest : List Value} (hlen : ∀ sig, parseMethodDescriptor y.desc = some sig → argsL.length = sig.parameters.length)
    (hstack : g.stack = argsL.reverse ++ rest) (hW : 2 * g.monitorRoom + (rest.map fun v => v.category).sum ≤ W9) (hdg : decode c.code g.pc = .ok (.invokestatic index, 3))
    (hpre : ∀ vm₁, s.WarmedH vm₁ → Pre ⟨T.setVm vm₁, locs, cells, slots⟩ argsL.toArray) :
    ∃ (v : Option Value) (vm₁ : Vm) (B : Pt), s.WarmedH vm₁ ∧ Stand p l e R s m args below meth c B.U B.locs B.cells B.slots ∧ Post ⟨T.setVm vm₁, locs, cells, slots⟩ argsL.toArray v B ∧
      ∀ target, Steps p.tables e below (B.U.setTop { g with pc := g.pc + 3, stack := v.toList ++ rest }) target → Steps p.tables e below (T.setTop g) target := by
  obtain ⟨mk, methM, cM, hnamed, hmethM, -, -, -, -, -, -, hsigM⟩ := Cond.codeWith_spec hcode
  have hstatic : methM.isStatic = true := Cond.static_spec hnamed hmethM hstat
  obtain ⟨kP, hkP, -⟩ := className_of_methodNamed hnamed
  have hinitP : kP.init = .initialized := Cond.initialized_spec (findClass_of_methodNamed hnamed) hkP hinit
  obtain ⟨vm₁, X₁, hstep₁⟩ := X.invokestatic hexec hown hlink hnamed hmethM hstatic hkP hinitP hy (g := g) hg (argsL := argsL) (rest := rest) (hlen _ hsigM) hstack hdg
  obtain ⟨v, B, X', hpost, hsteps⟩ := hK m meth c ⟨T.setVm vm₁, locs, cells, slots⟩ { g with stack := rest } (.invokestatic index) mk argsL.toArray X₁ hg hsize hdg hW (X₁.named hnamed) (hpre vm₁ X₁.warmed)
  exact ⟨v, vm₁, B, X₁.warmed, X', hpost, fun target h => hstep₁ _ fun acts => by rw [doInvoke_state]; exact hsteps.trans h⟩
theorem vx_runSW {y : MethodName} {bytes cc : ByteArray} {maxL nL mc ms n index : Nat} {ret : Option FieldType} {hh : List (Nat × Nat × Nat × Nat)} {ws : List Cond} {rm : Room} {Pc : Array Value → State → Prop} {Qc : Array Value → State → Outcome → State → Prop} {free : Addr → Prop} {Ts : List Cond} {own : String} {As rest : List Value} {g : JFrame}
    (S : CallFix p m c cc nL s args Ts own) (hM : Met l y ws rm Pc Qc mc ms free) (cw : vx_CSW R s args own index y bytes maxL ret hh ws rm mc ms n) (hp : PreS s H Pc As)
    (hg : g.method = m) (hn : As.length = n) (hsize : g.locals.size = nL) (hstack : g.stack = As.reverse ++ rest) (hW : 2 * g.monitorRoom + (rest.map fun v => v.category).sum ≤ 8) (hdg : decode cc g.pc = .ok (.invokestatic index, 3)) (hf : cells + mc ≤ R.cells ∧ slots + ms ≤ R.slots) :
    va_Run p l e R s m args below meth c H locs cells slots mc ms g rest (Qc As.toArray) (free) := by
  obtain ⟨⟨hrc, hrs, hfr, hlo, hws, hcw⟩, hcode, hini, hy, hlen, hl, hstt⟩ := cw
  have hK : Back l R p e below s args y 3 8 (PreOf R mc ms Pc) (PostOf Qc mc ms free) := va_backW (hh := hh) (bytes := bytes) (maxL := maxL) (ret := ret) hM hp.1 hrc hrs hfr hlo hws hcw (fun a' U hW => word_at hW (Or.inl (by first | rfl | simp [Cond.onTables, Cond.keeps, Cond.steady])) hini)
  obtain ⟨hx, hb, hml, ho, -⟩ := S
  intro T hT X
  obtain ⟨v, vm₁, ⟨U', l2, c2, s2⟩, hW₁, X', ⟨g', mk, t, L, e1, e2, hq, h1, hL, h2, h3⟩, st⟩ := vx_callSW X hx (hh := hh) (bytes := bytes) (maxL := maxL) (ret := ret) ho hl hstt hini hcode hy hK hg (hsize.trans hml.symm) (argsL := As) (rest := rest) (fun sig h => hn.trans (hlen sig h)) hstack hW (by rw [hb]; exact hdg)
    (fun vm₁ hW₁ => ⟨hf.1, hf.2, hp.2 (T.setVm vm₁) hT hW₁⟩)
  dsimp only [Pt.U, Pt.locs, Pt.cells, Pt.slots] at X' e1 e2 h1 h2 h3 st
  subst h1; subst h2; subst h3
  exact ⟨v, (T.setVm vm₁).calling g' mk As.toArray, t, U', L, hT, X', hL, e1, e2, hq, st⟩
/-- not caught here, past rows that name other classes: it goes on to the caller -/
theorem vx_outP {p : Program} {l : Launch} {e : Env} {R : Room} {s : State} {m : MethodId} {args : Array Value} {below : List Frame} {meth : Method} {c : Code} {H : Heap} {locs : List Loc} {cells slots : Nat} {free : Addr → Prop} {ls : Array Slot} {rest : List Value} {Qc : Array Value → State → Outcome → State → Prop} {XC : String → State → State → Prop}
    {pc : Nat} {own E : String} {ce : Cell} {q : Addr} {mc ms : Nat} (hown : s.vm.findClass own = some m.cls) (hlocks : meth.locks = false)
    (hpass : ∀ z ∈ c.exceptionTable.toList, covers z pc = false ∨ (z.catchType ≠ 0 ∧ ∃ nm : String, (Cond.classLink own z.catchType nm).before args s = true ∧ va_Nc E nm s)) (hcell : H[q]? = some ce) (hv : ce.vm = .none) (hcl : s.vm.findClass E = some ce.cls)
    (hx : ∀ t : State, t.heap = H → s.vm.Alike t.vm → XC E s t) (hf : ∀ z ∈ locs, free z.base) (hc : cells ≤ mc) (hs : slots ≤ ms) :
    vx_W p l e R s m args below meth c H locs cells slots (vx_MQ below Qc XC args s mc ms free) (F0 m pc ls rest) q := by
  intro T hT X
  have hpl : e.platform.magicAccessors = ({} : Platform).magicAccessors := by rw [X.admits.platform]
  obtain ⟨vm', hW', X', st⟩ := X.outThrough hlocks q (g := F0 m pc ls rest) rfl rfl rfl (cell := ce) (by rw [hT]; exact hcell) (by rw [hv]; rfl)
    (by obtain ⟨k9, h9, -⟩ := Vm.findClass_spec hcl; exact ⟨k9, h9⟩) (fun z hz => by
      rcases hpass z hz with h | ⟨hz0, nm, hl1, hn1⟩
      · exact Or.inl h
      · obtain ⟨c6, hc6, hcl6⟩ := Cond.classLink_spec hown hl1 e.platform hpl
        obtain ⟨a8, b8, h1, h2, h3⟩ := hn1
        cases Option.some.inj (h1.symm.trans hcl)
        cases Option.some.inj (h2.symm.trans hc6)
        exact Or.inr ⟨hz0, _, hcl6, h3⟩)
  obtain ⟨g₀, hfr⟩ := X'.frames_eq
  have hcell9 : ((T.setVm vm').setFrames (.throwing q :: below)).heap[q]? = some ce := by
    show T.heap[q]? = some ce
    rw [hT]; exact hcell
  have hend : Ended ((T.setVm vm').setFrames (.throwing q :: below)) below (.threw q) := State.frames_setFrames _ (State.cur_lt_of_frames hfr)
  refine ⟨(T.setVm vm').setFrames (.throwing q :: below), ?_, .threw q, X'.here.running, hend, Or.inr ⟨q, rfl, E, ce, locs, hx _ hT (X'.ends _).1.alike, hcell9, hv, hcl, (X'.ends _).1, (X'.ends _).2.mono hc hs, hf⟩⟩
  rw [X.pushThrowing_eq]
  exact st
/-- a thing of a world lies in the heap -/
theorem vx_lt {D : va_G} {cl : List vw_C} {ws : va_W} {H1 : Heap} (h : va_P D cl ws H1) {k : Nat} {q : Nat × va_E} (hk : ws[k]? = some q) : q.1 < H1.size := (h k q hk).lt
end VXS
/-! ===== END ===== -/
/-! ===== BEGIN methods with a table of their own: called by a name, returning or throwing ===== -/
section VXH
/-! vx_backW, vx_callVX, vx_callSX, vx_callVW, vx_runVW, vx_runVX, vx_runSX, vx_ofWH follow the same proofs as their sisters above (Free/Laws.lean, Shelf42/LK1.lean); vx_outP calls Shelf42/NT130.lean (outThrough). -/
section
variable {l : Launch} {R : Room} {p : Program} {e : Env} {below : List Frame} {s : State} {sargs : Array Value} {y : MethodName} {len W9 : Nat}
theorem vx_backW {ws : List Cond} {rm : Room} {Pc : Array Value → State → Prop} {Qc : Array Value → State → Outcome → State → Prop} {XC : String → State → State → Prop} {mc ms : Nat} {free : Addr → Prop} {bytes : ByteArray} {maxL : Nat} {ret : Option FieldType} {hh : List (Nat × Nat × Nat × Nat)}
    (hM : vx_Met l y ws rm Pc Qc XC mc ms free) (hblind : FrameBlind Pc) (hrc : rm.cells = mc) (hrs : rm.slots = ms)
    (hframes : rm.frames + 1 ≤ R.frames) (hlocals : W9 + (maxL + 11) + rm.locals ≤ R.locals)
    (hws : ∀ w ∈ ws, ∀ a' U, s.WarmedH U.vm → w.before a' U = true) (hcode : Cond.codeWith y bytes maxL ret hh ∈ ws) (hinit : ∀ a' U, s.WarmedH U.vm → (Cond.initialized y.cls).before a' U = true) :
    vx_Back l R p e below s sargs y len W9 (PreOf R mc ms Pc) (PostOf Qc mc ms free) (vx_Post XC mc ms free) := by
  intro m meth c A g ig mk a X hg hsize hdg hW hn hp
  have h1 : (headSpec ws rm).pre.before a A.U = true := atoms_intro fun w hw => hws w hw _ _ X.warmed
  have h2 : (Cond.codeWith y bytes maxL ret hh).before a A.U = true := hws _ hcode _ _ X.warmed
  have h3 : (Cond.initialized y.cls).before a A.U = true := hinit _ _ X.warmed
  have h4 : A.cells + (headSpec ws rm).room.cells ≤ R.cells := by rw [show (headSpec ws rm).room.cells = mc from hrc]; exact hp.1
  have h5 : A.slots + (headSpec ws rm).room.slots ≤ R.slots := by rw [show (headSpec ws rm).room.slots = ms from hrs]; exact hp.2.1
  have hPc : Pc a (A.U.calling g mk a) := hblind _ _ _ _ hp.2.2
  obtain ⟨U, Ls, c0, s0⟩ := A
  dsimp only [Pt.U, Pt.locs, Pt.cells, Pt.slots] at h1 h2 h3 h4 h5 X hn hPc ⊢
  obtain ⟨m9, methY, cY, hn9, hmY, hcY, -, hlY, -⟩ := Cond.codeWith_spec h2
  cases Option.some.inj (hn9.symm.trans hn)
  obtain ⟨kY, hkY, -⟩ := className_of_methodNamed hn
  have hinitY : kY.init = .initialized := Cond.initialized_spec (findClass_of_methodNamed hn) hkY h3
  have h : At U g.method c below := by rw [hg]; exact X.here
  have hlocals9 : W9 + (maxL + 11) + (headSpec ws rm).room.locals ≤ R.locals := hlocals
  have happ : (headSpec ws rm).appliesLoose y e.platform (U.calling g mk a) = true :=
    Spec.appliesLoose_calling (g := g) h hdg hn hkY hinitY
      (X.room_calling (g := g) (R' := (headSpec ws rm).room) hsize hmY hcY hframes (by rw [hlY]; omega) h4 h5) h1
  obtain ⟨mid, hmid⟩ := h.above
  have hfr : (U.setTop g).frames = (.java g :: mid) ++ below := by rw [State.frames_setTop' g h.top, hmid]; rfl
  obtain ⟨o, s₂, hsteps, -, hend, hq⟩ := Steps.callFree hM p X.admits X.cas X.clock (acts := []) hfr happ hPc trivial
  have hq' : vx_Q Qc XC mc ms free a (U.calling g mk a) o s₂ := hq
  rw [State.frames_setTop' g h.top] at hend
  obtain ⟨g₀, hg0⟩ := Option.isSome_iff_exists.mp h.top
  obtain ⟨r, hr⟩ := State.topJava?_eq_some.mp hg0
  have hr' : (({ U with heap := s₂.heap, slotsUsed := s₂.slotsUsed } : State).setVm s₂.vm).frames = .java g₀ :: r := hr
  rcases hq' with ⟨hqc, L, hfe, hL⟩ | ⟨q, rfl, E, ce, L, hx, hce, hcv, hcl, hW₂, hsm, hL⟩
  · obtain ⟨⟨v, rfl⟩, hW₂, e2, q2, q3, q4, q5, q6⟩ := id hfe
    have e3 : s₂ = ({ (U.calling g mk a).setFrames s₂.frames with heap := s₂.heap, slotsUsed := s₂.slotsUsed } : State).setVm s₂.vm := by
      have : s₂ = ({ s₂ with vm := (U.calling g mk a).vm } : State).setVm s₂.vm := rfl
      rw [e2] at this
      exact this
    obtain ⟨c₂, i₂, len₂, hc₂, hd₂, hf₂⟩ := hend
    have hW' : U.WarmedH s₂.vm := hW₂
    have hcc : c₂ = c := by
      have h1 : s₂.code? g.method = U.code? g.method := by
        rw [State.code?_eq, State.code?_eq, hW'.alike.method?]
      exact Option.some.inj (hc₂.symm.trans (h1.trans h.code))
    subst hcc
    have hlen : len₂ = len := by rw [hdg] at hd₂; cases hd₂; rfl
    subst hlen
    have hs₂ : s₂ = (({ U with heap := s₂.heap, slotsUsed := s₂.slotsUsed } : State).setVm s₂.vm).setTop { g with pc := g.pc + len₂, stack := v.toList ++ g.stack } := by
      refine e3.trans ?_
      rw [hf₂, State.calling_eq h.top, State.setFrames_setFrames, State.setTop_of_frames _ hr', hr]
      rfl
    have hsame : U.sameButNew ({ U with heap := s₂.heap, slotsUsed := s₂.slotsUsed } : State) L mc ms := by
      refine ⟨?_, q2, q3, q4, q5, q6⟩
      obtain ⟨t, ht, -⟩ := State.frames_cons hr
      show ({ U with heap := s₂.heap, slotsUsed := s₂.slotsUsed } : State) = { U.setFrames U.frames with heap := s₂.heap, slotsUsed := s₂.slotsUsed }
      rw [State.setFrames_self ht]
    subst hg
    refine Or.inl ⟨v, ⟨(({ U with heap := s₂.heap, slotsUsed := s₂.slotsUsed } : State).setVm s₂.vm), Ls ++ L, c0 + mc, s0 + ms⟩,
      ⟨X.admits, X.cas, X.clock, X.frames, X.room, X.hears, X.method, X.code, (X.here.setHeapUsed s₂.heap s₂.slotsUsed).setVm hW'.alike, X.tail, State.WarmedH.trans X.warmed hW', X.limits, X.bytes, X.same.trans (hsame.setVm s.vm)⟩,
      ⟨g, mk, s₂, L, rfl, rfl, hqc, rfl, hL, rfl, rfl⟩, ?_⟩
    show Steps p.tables e below _ ((({ U with heap := s₂.heap, slotsUsed := s₂.slotsUsed } : State).setVm s₂.vm).setTop { g with pc := g.pc + len₂, stack := v.toList ++ g.stack })
    rw [← hs₂]
    exact hsteps
  · obtain ⟨e2, q2, q3, q4, q5, q6⟩ := id hsm
    have e3 : s₂ = ({ (U.calling g mk a).setFrames s₂.frames with heap := s₂.heap, slotsUsed := s₂.slotsUsed } : State).setVm s₂.vm := by
      have : s₂ = ({ s₂ with vm := (U.calling g mk a).vm } : State).setVm s₂.vm := rfl
      rw [e2] at this
      exact this
    have hf₂ : s₂.frames = .throwing q :: .java g :: U.frames.tail := hend
    have hW' : U.WarmedH s₂.vm := hW₂
    have hs₂ : s₂ = ((({ U with heap := s₂.heap, slotsUsed := s₂.slotsUsed } : State).setVm s₂.vm).setTop g).pushFrame (.throwing q) := by
      refine e3.trans ?_
      rw [hf₂, State.calling_eq h.top, State.setFrames_setFrames, State.pushFrame, State.frames_setTop _ hr', State.setTop_of_frames _ hr', State.setFrames_setFrames, hr]
      rfl
    have hsame : U.sameButNew ({ U with heap := s₂.heap, slotsUsed := s₂.slotsUsed } : State) L mc ms := by
      refine ⟨?_, q2, q3, q4, q5, q6⟩
      obtain ⟨t, ht, -⟩ := State.frames_cons hr
      show ({ U with heap := s₂.heap, slotsUsed := s₂.slotsUsed } : State) = { U.setFrames U.frames with heap := s₂.heap, slotsUsed := s₂.slotsUsed }
      rw [State.setFrames_self ht]
    subst hg
    refine Or.inr ⟨q, ⟨(({ U with heap := s₂.heap, slotsUsed := s₂.slotsUsed } : State).setVm s₂.vm), Ls ++ L, c0 + mc, s0 + ms⟩,
      ⟨X.admits, X.cas, X.clock, X.frames, X.room, X.hears, X.method, X.code, (X.here.setHeapUsed s₂.heap s₂.slotsUsed).setVm hW'.alike, X.tail, State.WarmedH.trans X.warmed hW', X.limits, X.bytes, X.same.trans (hsame.setVm s.vm)⟩,
      ⟨g, mk, s₂, L, E, ce, rfl, rfl, hx, hce, hcv, hcl, rfl, hL, rfl, rfl⟩, ?_⟩
    show Steps p.tables e below _ (((({ U with heap := s₂.heap, slotsUsed := s₂.slotsUsed } : State).setVm s₂.vm).setTop g).pushFrame (.throwing q))
    rw [← hs₂]
    exact hsteps
end
variable {p : Program} {l : Launch} {e : Env} {R : Room} {s : State} {m : MethodId} {args : Array Value} {below : List Frame} {meth : Method} {c : Code} {T : State} {H : Heap} {locs : List Loc} {cells slots : Nat}
theorem vx_callVX (X : Stand p l e R s m args below meth c T locs cells slots) (hexec : p.tables.exec = Jvm.exec) {own C : String} {index : Nat} {y : MethodName} {bytes : ByteArray} {maxL : Nat} {ret : Option FieldType} {hh : List (Nat × Nat × Nat × Nat)}
    (hown : s.vm.findClass own = some m.cls) (hlink : (Cond.methodLink own index y).before args s = true) (hinst : (Cond.instanceMethod y).before args s = true) (hsel : (Cond.selects C y y).before args s = true)
    (hcode : (Cond.codeWith y bytes maxL ret hh).before args s = true) (hy : y.cls ≠ "java/lang/invoke/MethodHandle" ∧ y.cls ≠ "java/lang/invoke/VarHandle")
    {W9 : Nat} {Pre : Pt → Array Value → Prop} {Post : Pt → Array Value → Option Value → Pt → Prop} {PostX : Pt → Array Value → Addr → Pt → Prop} (hK : vx_Back l R p e below s args y 3 W9 Pre Post PostX)
    {b : Addr} {cellB : Cell} (hcell : T.heap[b]? = some cellB) (hobj : cellB.vm.isStatics = false) (hcls : s.vm.findClass C = some cellB.cls)
    {g : JFrame} (hg : g.method = m) (hsize : g.locals.size = c.maxLocals) {argsL rest : List Value} (hlen : ∀ sig, parseMethodDescriptor y.desc = some sig → argsL.length = sig.parameters.length)
    (hstack : g.stack = argsL.reverse ++ .ref b :: rest) (hW : 2 * g.monitorRoom + (rest.map fun v => v.category).sum ≤ W9) (hdg : decode c.code g.pc = .ok (.invokevirtual index, 3))
    (hpre : ∀ vm₁, s.WarmedH vm₁ → Pre ⟨T.setVm vm₁, locs, cells, slots⟩ (Value.ref b :: argsL).toArray) :
    (∃ (v : Option Value) (vm₁ : Vm) (B : Pt), s.WarmedH vm₁ ∧ Stand p l e R s m args below meth c B.U B.locs B.cells B.slots ∧ Post ⟨T.setVm vm₁, locs, cells, slots⟩ (Value.ref b :: argsL).toArray v B ∧
      ∀ target, Steps p.tables e below (B.U.setTop { g with pc := g.pc + 3, stack := v.toList ++ rest }) target → Steps p.tables e below (T.setTop g) target) ∨
    (∃ (q : Addr) (vm₁ : Vm) (B : Pt), s.WarmedH vm₁ ∧ Stand p l e R s m args below meth c B.U B.locs B.cells B.slots ∧ PostX ⟨T.setVm vm₁, locs, cells, slots⟩ (Value.ref b :: argsL).toArray q B ∧
      Steps p.tables e below (T.setTop g) ((B.U.setTop { g with stack := rest }).pushFrame (.throwing q))) := by
  obtain ⟨mk, methM, hnamed, hmethM, hstM, habM⟩ := Cond.instanceMethod_spec hinst
  obtain ⟨m8, methM', cM, hn8, hmethM', -, -, -, -, -, -, hsigM⟩ := Cond.codeWith_spec hcode
  cases Option.some.inj (hn8.symm.trans hnamed)
  cases hmethM.symm.trans hmethM'
  obtain ⟨c2, r2, m2, q1, q2, q3, q4, kP, hkP, hkPi⟩ := Cond.selects_spec hsel
  cases hcls.symm.trans q1
  cases (State.methodFound?_of_named hnamed hy).symm.trans q2
  cases hnamed.symm.trans q3
  have hselP : selectMethod e.platform s.vm cellB.cls mk = .method mk := by rw [Launch.admits_selectMethod X.admits]; exact q4
  obtain ⟨vm₁, X₁, hstep₁⟩ := X.invokevirtual hexec hown hlink hnamed hmethM hstM hkP hkPi hy (a := b) (cell := cellB) hcell
    (fun z h => by rw [h] at hobj; cases hobj) hselP hmethM habM hkP hkPi (g := g) hg (argsL := argsL) (rest := rest) (hlen _ hsigM) hstack hdg
  rcases hK m meth c ⟨T.setVm vm₁, locs, cells, slots⟩ { g with stack := rest } (.invokevirtual index) mk (Value.ref b :: argsL).toArray X₁ hg hsize hdg hW (X₁.named hnamed) (hpre vm₁ X₁.warmed) with ⟨v, B, X', hpost, hsteps⟩ | ⟨q, B, X', hpost, hsteps⟩
  · exact Or.inl ⟨v, vm₁, B, X₁.warmed, X', hpost, fun target h => hstep₁ _ fun acts => by rw [doInvoke_state]; exact hsteps.trans h⟩
  · exact Or.inr ⟨q, vm₁, B, X₁.warmed, X', hpost, hstep₁ _ fun acts => by rw [doInvoke_state]; exact hsteps⟩
theorem vx_callSX (X : Stand p l e R s m args below meth c T locs cells slots) (hexec : p.tables.exec = Jvm.exec) {own : String} {index : Nat} {y : MethodName} {bytes : ByteArray} {maxL : Nat} {ret : Option FieldType} {hh : List (Nat × Nat × Nat × Nat)}
    (hown : s.vm.findClass own = some m.cls) (hlink : (Cond.methodLink own index y).before args s = true) (hstat : (Cond.static y).before args s = true) (hinit : (Cond.initialized y.cls).before args s = true)
    (hcode : (Cond.codeWith y bytes maxL ret hh).before args s = true) (hy : y.cls ≠ "java/lang/invoke/MethodHandle" ∧ y.cls ≠ "java/lang/invoke/VarHandle")
    {W9 : Nat} {Pre : Pt → Array Value → Prop} {Post : Pt → Array Value → Option Value → Pt → Prop} {PostX : Pt → Array Value → Addr → Pt → Prop} (hK : vx_Back l R p e below s args y 3 W9 Pre Post PostX)
    {g : JFrame} (hg : g.method = m) (hsize : g.locals.size = c.maxLocals) {argsL rest : List Value} (hlen : ∀ sig, parseMethodDescriptor y.desc = some sig → argsL.length = sig.parameters.length)
    (hstack : g.stack = argsL.reverse ++ rest) (hW : 2 * g.monitorRoom + (rest.map fun v => v.category).sum ≤ W9) (hdg : decode c.code g.pc = .ok (.invokestatic index, 3))
    (hpre : ∀ vm₁, s.WarmedH vm₁ → Pre ⟨T.setVm vm₁, locs, cells, slots⟩ argsL.toArray) :
    (∃ (v : Option Value) (vm₁ : Vm) (B : Pt), s.WarmedH vm₁ ∧ Stand p l e R s m args below meth c B.U B.locs B.cells B.slots ∧ Post ⟨T.setVm vm₁, locs, cells, slots⟩ argsL.toArray v B ∧
      ∀ target, Steps p.tables e below (B.U.setTop { g with pc := g.pc + 3, stack := v.toList ++ rest }) target → Steps p.tables e below (T.setTop g) target) ∨
    (∃ (q : Addr) (vm₁ : Vm) (B : Pt), s.WarmedH vm₁ ∧ Stand p l e R s m args below meth c B.U B.locs B.cells B.slots ∧ PostX ⟨T.setVm vm₁, locs, cells, slots⟩ argsL.toArray q B ∧
      Steps p.tables e below (T.setTop g) ((B.U.setTop { g with stack := rest }).pushFrame (.throwing q))) := by
  obtain ⟨mk, methM, cM, hnamed, hmethM, -, -, -, -, -, -, hsigM⟩ := Cond.codeWith_spec hcode
  have hstatic : methM.isStatic = true := Cond.static_spec hnamed hmethM hstat
  obtain ⟨kP, hkP, -⟩ := className_of_methodNamed hnamed
  have hinitP : kP.init = .initialized := Cond.initialized_spec (findClass_of_methodNamed hnamed) hkP hinit
  obtain ⟨vm₁, X₁, hstep₁⟩ := X.invokestatic hexec hown hlink hnamed hmethM hstatic hkP hinitP hy (g := g) hg (argsL := argsL) (rest := rest) (hlen _ hsigM) hstack hdg
  rcases hK m meth c ⟨T.setVm vm₁, locs, cells, slots⟩ { g with stack := rest } (.invokestatic index) mk argsL.toArray X₁ hg hsize hdg hW (X₁.named hnamed) (hpre vm₁ X₁.warmed) with ⟨v, B, X', hpost, hsteps⟩ | ⟨q, B, X', hpost, hsteps⟩
  · exact Or.inl ⟨v, vm₁, B, X₁.warmed, X', hpost, fun target h => hstep₁ _ fun acts => by rw [doInvoke_state]; exact hsteps.trans h⟩
  · exact Or.inr ⟨q, vm₁, B, X₁.warmed, X', hpost, hstep₁ _ fun acts => by rw [doInvoke_state]; exact hsteps⟩
theorem vx_callVW (X : Stand p l e R s m args below meth c T locs cells slots) (hexec : p.tables.exec = Jvm.exec) {own C : String} {index : Nat} {y : MethodName} {bytes : ByteArray} {maxL : Nat} {ret : Option FieldType} {hh : List (Nat × Nat × Nat × Nat)}
    (hown : s.vm.findClass own = some m.cls) (hlink : (Cond.methodLink own index y).before args s = true) (hinst : (Cond.instanceMethod y).before args s = true) (hsel : (Cond.selects C y y).before args s = true)
    (hcode : (Cond.codeWith y bytes maxL ret hh).before args s = true) (hy : y.cls ≠ "java/lang/invoke/MethodHandle" ∧ y.cls ≠ "java/lang/invoke/VarHandle")
    {W9 : Nat} {Pre : Pt → Array Value → Prop} {Post : Pt → Array Value → Option Value → Pt → Prop} (hK : Back l R p e below s args y 3 W9 Pre Post)
    {b : Addr} {cellB : Cell} (hcell : T.heap[b]? = some cellB) (hobj : cellB.vm.isStatics = false) (hcls : s.vm.findClass C = some cellB.cls)
    {g : JFrame} (hg : g.method = m) (hsize : g.locals.size = c.maxLocals) {argsL rest : List Value} (hlen : ∀ sig, parseMethodDescriptor y.desc = some sig → argsL.length = sig.parameters.length)
    (hstack : g.stack = argsL.reverse ++ .ref b :: rest) (hW : 2 * g.monitorRoom + (rest.map fun v => v.category).sum ≤ W9) (hdg : decode c.code g.pc = .ok (.invokevirtual index, 3))
    (hpre : ∀ vm₁, s.WarmedH vm₁ → Pre ⟨T.setVm vm₁, locs, cells, slots⟩ (Value.ref b :: argsL).toArray) :
    ∃ (v : Option Value) (vm₁ : Vm) (B : Pt), s.WarmedH vm₁ ∧ Stand p l e R s m args below meth c B.U B.locs B.cells B.slots ∧ Post ⟨T.setVm vm₁, locs, cells, slots⟩ (Value.ref b :: argsL).toArray v B ∧
      ∀ target, Steps p.tables e below (B.U.setTop { g with pc := g.pc + 3, stack := v.toList ++ rest }) target → Steps p.tables e below (T.setTop g) target := by
  obtain ⟨mk, methM, hnamed, hmethM, hstM, habM⟩ := Cond.instanceMethod_spec hinst
  obtain ⟨m8, methM', cM, hn8, hmethM', -, -, -, -, -, -, hsigM⟩ := Cond.codeWith_spec hcode
  cases Option.some.inj (hn8.symm.trans hnamed)
  cases hmethM.symm.trans hmethM'
  obtain ⟨c2, r2, m2, q1, q2, q3, q4, kP, hkP, hkPi⟩ := Cond.selects_spec hsel
  cases hcls.symm.trans q1
  cases (State.methodFound?_of_named hnamed hy).symm.trans q2
  cases hnamed.symm.trans q3
  have hselP : selectMethod e.platform s.vm cellB.cls mk = .method mk := by rw [Launch.admits_selectMethod X.admits]; exact q4
  obtain ⟨vm₁, X₁, hstep₁⟩ := X.invokevirtual hexec hown hlink hnamed hmethM hstM hkP hkPi hy (a := b) (cell := cellB) hcell
    (fun z h => by rw [h] at hobj; cases hobj) hselP hmethM habM hkP hkPi (g := g) hg (argsL := argsL) (rest := rest) (hlen _ hsigM) hstack hdg
  obtain ⟨v, B, X', hpost, hsteps⟩ := hK m meth c ⟨T.setVm vm₁, locs, cells, slots⟩ { g with stack := rest } (.invokevirtual index) mk (Value.ref b :: argsL).toArray X₁ hg hsize hdg hW (X₁.named hnamed) (hpre vm₁ X₁.warmed)
  exact ⟨v, vm₁, B, X₁.warmed, X', hpost, fun target h => hstep₁ _ fun acts => by rw [doInvoke_state]; exact hsteps.trans h⟩
abbrev vx_CVW (R : Room) (s : State) (args : Array Value) (own C : String) (index : Nat) (y : MethodName) (bytes : ByteArray) (maxL : Nat) (ret : Option FieldType) (hh : List (Nat × Nat × Nat × Nat)) (ws : List Cond) (rm : Room) (mc ms n : Nat) : Prop :=
  (rm.cells = mc ∧ rm.slots = ms ∧ rm.frames + 1 ≤ R.frames ∧ 8 + (maxL + 11) + rm.locals ≤ R.locals ∧ (∀ w ∈ ws, ∀ (a' : Array Value) (U : State), s.WarmedH U.vm → w.before a' U = true) ∧ Cond.codeWith y bytes maxL ret hh ∈ ws) ∧
  (Cond.codeWith y bytes maxL ret hh).before args s = true ∧ (Cond.initialized y.cls).before args s = true ∧ (y.cls ≠ "java/lang/invoke/MethodHandle" ∧ y.cls ≠ "java/lang/invoke/VarHandle") ∧
  (∀ sig, parseMethodDescriptor y.desc = some sig → n = sig.parameters.length) ∧ (Cond.methodLink own index y).before args s = true ∧ (Cond.instanceMethod y).before args s = true ∧ (Cond.selects C y y).before args s = true
theorem vx_cwVW {own C : String} {index maxL mc ms : Nat} {y : MethodName} {bytes : ByteArray} {ret : Option FieldType} {hh : List (Nat × Nat × Nat × Nat)} {Ts ws ws' : List Cond} {rm : Room} (n : Nat) (ht : ∀ w ∈ Ts, w.before args s = true) (hT : GoodIn Ts (wsV own index C y ws)) (hw : ws = Cond.codeWith y bytes maxL ret hh :: ws') (hrc : rm.cells = mc) (hrs : rm.slots = ms)
    (hd : y.cls = C ∧ y.cls ≠ "java/lang/invoke/MethodHandle" ∧ y.cls ≠ "java/lang/invoke/VarHandle" ∧ (parseMethodDescriptor y.desc).map (fun d => d.parameters.length) = some n) (hR : rm.frames + 1 ≤ R.frames ∧ 8 + (maxL + 11) + rm.locals ≤ R.locals) :
    vx_CVW R s args own C index y bytes maxL ret hh ws rm mc ms n := by
  obtain ⟨hC, hd⟩ := hd
  subst hC
  have ok : ∀ w ∈ wsV own index y.cls y ws, w.before args s = true := fun w h => ht w (hT w h).1
  have hG : GoodIn Ts ws := fun w h => hT w (by unfold wsV; exact List.mem_append_right _ h)
  have hc : Cond.codeWith y bytes maxL ret hh ∈ ws := by rw [hw]; exact List.mem_cons_self
  refine ⟨⟨hrc, hrs, hR.1, hR.2, pay_in ht hG, hc⟩, ht _ (hG _ hc).1, ok _ (by simp [wsV]), ⟨hd.1, hd.2.1⟩, fun sig h => ?_, ok _ (by simp [wsV]), ok _ (by simp [wsV]), ok _ (by simp [wsV])⟩
  have h2 := hd.2.2
  rw [h] at h2
  exact (Option.some.inj h2).symm
theorem vx_runVW {y : MethodName} {bytes cc : ByteArray} {maxL nL mc ms n index : Nat} {ret : Option FieldType} {hh : List (Nat × Nat × Nat × Nat)} {ws : List Cond} {rm : Room} {Pc : Array Value → State → Prop} {Qc : Array Value → State → Outcome → State → Prop} {free : Addr → Prop} {Ts : List Cond} {own C : String} {b : Addr} {As rest : List Value} {g : JFrame}
    (S : CallFix p m c cc nL s args Ts own) (hM : Met l y ws rm Pc Qc mc ms free) (cw : vx_CVW R s args own C index y bytes maxL ret hh ws rm mc ms n) (hp : PreV s H C b Pc As)
    (hg : g.method = m) (hn : As.length = n) (hsize : g.locals.size = nL) (hstack : g.stack = As.reverse ++ .ref b :: rest) (hW : 2 * g.monitorRoom + (rest.map fun v => v.category).sum ≤ 8) (hdg : decode cc g.pc = .ok (.invokevirtual index, 3)) (hf : cells + mc ≤ R.cells ∧ slots + ms ≤ R.slots) :
    va_Run p l e R s m args below meth c H locs cells slots mc ms g rest (Qc (Value.ref b :: As).toArray) free := by
  obtain ⟨⟨hrc, hrs, hfr, hlo, hws, hcw⟩, hcode, hini, hy, hlen, hl, hin, hse⟩ := cw
  have hK : Back l R p e below s args y 3 8 (PreOf R mc ms Pc) (PostOf Qc mc ms free) := va_backW (hh := hh) (bytes := bytes) (maxL := maxL) (ret := ret) hM hp.1 hrc hrs hfr hlo hws hcw (fun a' U hW => word_at hW (Or.inl (by first | rfl | simp [Cond.onTables, Cond.keeps, Cond.steady])) hini)
  obtain ⟨hx, hb, hml, ho, -⟩ := S
  obtain ⟨-, ⟨cellB, hcB, hoB, hclB⟩, hPc⟩ := hp
  intro T hT X
  obtain ⟨v, vm₁, ⟨U', l2, c2, s2⟩, hW₁, X', ⟨g', mk, t, L, e1, e2, hq, h1, hL, h2, h3⟩, st⟩ := vx_callVW X hx (C := C) (hh := hh) (bytes := bytes) (maxL := maxL) (ret := ret) ho hl hin hse hcode hy hK (by rw [hT]; exact hcB) hoB hclB hg (hsize.trans hml.symm) (argsL := As) (rest := rest) (fun sig h => hn.trans (hlen sig h)) hstack hW (by rw [hb]; exact hdg)
    (fun vm₁ hW₁ => ⟨hf.1, hf.2, hPc (T.setVm vm₁) hT hW₁⟩)
  dsimp only [Pt.U, Pt.locs, Pt.cells, Pt.slots] at X' e1 e2 h1 h2 h3 st
  subst h1; subst h2; subst h3
  exact ⟨v, (T.setVm vm₁).calling g' mk (Value.ref b :: As).toArray, t, U', L, hT, X', hL, e1, e2, hq, st⟩
section
variable {y : MethodName} {bytes cc : ByteArray} {maxL nL mc ms n index : Nat} {ret : Option FieldType} {ws : List Cond} {rm : Room} {Pc : Array Value → State → Prop} {Qc : Array Value → State → Outcome → State → Prop} {XC : String → State → State → Prop} {free : Addr → Prop} {Ts : List Cond} {own C : String} {b : Addr} {As rest : List Value} {g : JFrame}
theorem vx_runVX {hh : List (Nat × Nat × Nat × Nat)} (S : CallFix p m c cc nL s args Ts own) (hM : vx_Met l y ws rm Pc Qc XC mc ms free) (cw : vx_CVW R s args own C index y bytes maxL ret hh ws rm mc ms n) (hp : PreV s H C b Pc As)
    (hg : g.method = m) (hn : As.length = n) (hsize : g.locals.size = nL) (hstack : g.stack = As.reverse ++ .ref b :: rest) (hW : 2 * g.monitorRoom + (rest.map fun v => v.category).sum ≤ 8) (hdg : decode cc g.pc = .ok (.invokevirtual index, 3)) (hf : cells + mc ≤ R.cells ∧ slots + ms ≤ R.slots) :
    vx_Run p l e R s m args below meth c H locs cells slots mc ms g rest (Qc (Value.ref b :: As).toArray) XC free := by
  obtain ⟨⟨hrc, hrs, hfr, hlo, hws, hcw⟩, hcode, hini, hy, hlen, hl, hin, hse⟩ := cw
  have hK : vx_Back l R p e below s args y 3 8 (PreOf R mc ms Pc) (PostOf Qc mc ms free) (vx_Post XC mc ms free) := vx_backW (hh := hh) (bytes := bytes) (maxL := maxL) (ret := ret) hM hp.1 hrc hrs hfr hlo hws hcw (fun a' U hW => word_at hW (Or.inl (by first | rfl | simp [Cond.onTables, Cond.keeps, Cond.steady])) hini)
  obtain ⟨hx, hb, hml, ho, -⟩ := S
  obtain ⟨-, ⟨cellB, hcB, hoB, hclB⟩, hPc⟩ := hp
  intro T hT X
  rcases vx_callVX X hx (C := C) (hh := hh) (bytes := bytes) (maxL := maxL) (ret := ret) ho hl hin hse hcode hy hK (by rw [hT]; exact hcB) hoB hclB hg (hsize.trans hml.symm) (argsL := As) (rest := rest) (fun sig h => hn.trans (hlen sig h)) hstack hW (by rw [hb]; exact hdg)
    (fun vm₁ hW₁ => ⟨hf.1, hf.2, hPc (T.setVm vm₁) hT hW₁⟩) with ⟨v, vm₁, ⟨U', l2, c2, s2⟩, hW₁, X', ⟨g', mk, t, L, e1, e2, hq, h1, hL, h2, h3⟩, st⟩ | ⟨q, vm₁, ⟨U', l2, c2, s2⟩, hW₁, X', ⟨g', mk, t, L, E, ce, e1, e2, hq, hce, hcv, hcl, h1, hL, h2, h3⟩, st⟩
  · dsimp only [Pt.U, Pt.locs, Pt.cells, Pt.slots] at X' e1 e2 h1 h2 h3 st
    subst h1; subst h2; subst h3
    exact Or.inl ⟨v, (T.setVm vm₁).calling g' mk (Value.ref b :: As).toArray, t, U', L, hT, X', hL, e1, e2, hq, st⟩
  · dsimp only [Pt.U, Pt.locs, Pt.cells, Pt.slots] at X' e1 e2 h1 h2 h3 st hcl
    subst h1; subst h2; subst h3
    exact Or.inr ⟨q, (T.setVm vm₁).calling g' mk (Value.ref b :: As).toArray, t, U', L, E, ce, hT, X', hL, e1, e2, hq, hce, hcv, vx_cls hW₁ hcl, st⟩
theorem vx_runSX {hh : List (Nat × Nat × Nat × Nat)} (S : CallFix p m c cc nL s args Ts own) (hM : vx_Met l y ws rm Pc Qc XC mc ms free) (cw : vx_CSW R s args own index y bytes maxL ret hh ws rm mc ms n) (hp : PreS s H Pc As)
    (hg : g.method = m) (hn : As.length = n) (hsize : g.locals.size = nL) (hstack : g.stack = As.reverse ++ rest) (hW : 2 * g.monitorRoom + (rest.map fun v => v.category).sum ≤ 8) (hdg : decode cc g.pc = .ok (.invokestatic index, 3)) (hf : cells + mc ≤ R.cells ∧ slots + ms ≤ R.slots) :
    vx_Run p l e R s m args below meth c H locs cells slots mc ms g rest (Qc As.toArray) XC free := by
  obtain ⟨⟨hrc, hrs, hfr, hlo, hws, hcw⟩, hcode, hini, hy, hlen, hl, hstt⟩ := cw
  have hK : vx_Back l R p e below s args y 3 8 (PreOf R mc ms Pc) (PostOf Qc mc ms free) (vx_Post XC mc ms free) := vx_backW (hh := hh) (bytes := bytes) (maxL := maxL) (ret := ret) hM hp.1 hrc hrs hfr hlo hws hcw (fun a' U hW => word_at hW (Or.inl (by first | rfl | simp [Cond.onTables, Cond.keeps, Cond.steady])) hini)
  obtain ⟨hx, hb, hml, ho, -⟩ := S
  intro T hT X
  rcases vx_callSX X hx (hh := hh) (bytes := bytes) (maxL := maxL) (ret := ret) ho hl hstt hini hcode hy hK hg (hsize.trans hml.symm) (argsL := As) (rest := rest) (fun sig h => hn.trans (hlen sig h)) hstack hW (by rw [hb]; exact hdg)
    (fun vm₁ hW₁ => ⟨hf.1, hf.2, hp.2 (T.setVm vm₁) hT hW₁⟩) with ⟨v, vm₁, ⟨U', l2, c2, s2⟩, hW₁, X', ⟨g', mk, t, L, e1, e2, hq, h1, hL, h2, h3⟩, st⟩ | ⟨q, vm₁, ⟨U', l2, c2, s2⟩, hW₁, X', ⟨g', mk, t, L, E, ce, e1, e2, hq, hce, hcv, hcl, h1, hL, h2, h3⟩, st⟩
  · dsimp only [Pt.U, Pt.locs, Pt.cells, Pt.slots] at X' e1 e2 h1 h2 h3 st
    subst h1; subst h2; subst h3
    exact Or.inl ⟨v, (T.setVm vm₁).calling g' mk As.toArray, t, U', L, hT, X', hL, e1, e2, hq, st⟩
  · dsimp only [Pt.U, Pt.locs, Pt.cells, Pt.slots] at X' e1 e2 h1 h2 h3 st hcl
    subst h1; subst h2; subst h3
    exact Or.inr ⟨q, (T.setVm vm₁).calling g' mk As.toArray, t, U', L, E, ce, hT, X', hL, e1, e2, hq, hce, hcv, vx_cls hW₁ hcl, st⟩
end
end VXH
theorem vx_ofWH {l : Launch} {y : MethodName} {ws ws' : List Cond} {rm : Room} {Pc : Array Value → State → Prop} {Qc : Array Value → State → Outcome → State → Prop} {XC : String → State → State → Prop} {mc ms : Nat} {free : Addr → Prop} {cc : ByteArray} {maxL : Nat} {ret : Option FieldType} {hh : List (Nat × Nat × Nat × Nat)}
    (hy : plainName y.cls = true) (hw : ws = Cond.codeWith y cc maxL ret hh :: ws')
    (body : ∀ p e s m args below meth c s₁, BodyLoose p l y (headSpec ws rm) cc maxL ret e s m args below meth c s₁ → c.maxLocals = maxL → Pc args s →
      W p l e (headSpec ws rm).room s m args below meth c s.heap [] 0 0 (vx_MQ below Qc XC args s mc ms free) (entryFrame m args maxL)) : vx_Met l y ws rm Pc Qc XC mc ms free := by
  refine MetFree.of_bodyS (code := cc) (maxLocals := maxL) (ret := ret) hy ?_ ?_
  · intro args s m h hn
    obtain ⟨m9, meth, c, hn9, h1, h2, h3, h4, -, h5, h6, -⟩ := Cond.codeWith_spec (atoms_spec (ws := ws) h _ (by rw [hw]; exact List.mem_cons_self))
    cases hn.symm.trans hn9
    exact ⟨meth, c, h1, h2, h3, h4, h5, h6⟩
  · intro p e s m args below meth c s₁ B hml hP _
    have hh0 : s₁.heap = s.heap := by rw [B.state]; rfl
    obtain ⟨t, a1, o, b1, b2, b3⟩ := body p e s m args below meth c s₁ B hml hP s₁ hh0 (Stand.of_body B)
    exact ⟨t, o, a1, b1, b2, b3⟩
/-! ===== END ===== -/
end
section
/-! ===== BEGIN a constructor that throws (launches without stack traces) ===== -/
section VXIA
variable {p : Program} {l : Launch} {e : Env} {R : Room} {s : State} {m : MethodId} {args : Array Value} {below : List Frame} {meth : Method} {c : Code} {T : State} {locs : List Loc} {cells slots : Nat}
theorem vx_callI (X : Stand p l e R s m args below meth c T locs cells slots) (hexec : p.tables.exec = Jvm.exec) {own : String} {index : Nat} {y : MethodName} {bytes : ByteArray} {maxL : Nat}
    (hown : s.vm.findClass own = some m.cls) (hy1 : y.name = "<init>") (hlink : (Cond.methodLink own index y).before args s = true) (hinst : (Cond.instanceMethod y).before args s = true)
    (hcode : (Cond.code y bytes maxL none).before args s = true) (hy : y.cls ≠ "java/lang/invoke/MethodHandle" ∧ y.cls ≠ "java/lang/invoke/VarHandle")
    {W9 : Nat} {Pre : Pt → Array Value → Prop} {Post : Pt → Array Value → Option Value → Pt → Prop} {PostX : Pt → Array Value → Addr → Pt → Prop} (hK : vx_Back l R p e below s args y 3 W9 Pre Post PostX)
    {g : JFrame} (hg : g.method = m) (hsize : g.locals.size = c.maxLocals) {a : Addr} {argsL rest : List Value} (hlen : ∀ sig, parseMethodDescriptor y.desc = some sig → argsL.length = sig.parameters.length)
    (hstack : g.stack = argsL.reverse ++ .ref a :: rest) (hW : 2 * g.monitorRoom + (rest.map fun v => v.category).sum ≤ W9) (hdg : decode c.code g.pc = .ok (.invokespecial index, 3))
    (hpre : ∀ vm₁, s.WarmedH vm₁ → Pre ⟨T.setVm vm₁, locs, cells, slots⟩ (Value.ref a :: argsL).toArray) :
    (∃ (v : Option Value) (vm₁ : Vm) (B : Pt), s.WarmedH vm₁ ∧ Stand p l e R s m args below meth c B.U B.locs B.cells B.slots ∧ Post ⟨T.setVm vm₁, locs, cells, slots⟩ (Value.ref a :: argsL).toArray v B ∧
      ∀ target, Steps p.tables e below (B.U.setTop { g with pc := g.pc + 3, stack := v.toList ++ rest }) target → Steps p.tables e below (T.setTop g) target) ∨
    (∃ (q : Addr) (vm₁ : Vm) (B : Pt), s.WarmedH vm₁ ∧ Stand p l e R s m args below meth c B.U B.locs B.cells B.slots ∧ PostX ⟨T.setVm vm₁, locs, cells, slots⟩ (Value.ref a :: argsL).toArray q B ∧
      Steps p.tables e below (T.setTop g) ((B.U.setTop { g with stack := rest }).pushFrame (.throwing q))) := by
  subst hg
  have hpl : e.platform.magicAccessors = ({} : Platform).magicAccessors := by rw [X.admits.platform]
  obtain ⟨mk, methM, cM, kP, vm₁, hnamed, hmethM, hcodeM, -, hlocalsM, -, hkP, -, hW₁, hstep₁⟩ := Steps.initColdArgs (e := e) X.here hexec X.warmed hpl hown hy1 hy hlink hinst hcode (f := g) rfl hlen hstack hdg
  have X₁ := X.noted hW₁
  rcases hK g.method meth c ⟨T.setVm vm₁, locs, cells, slots⟩ { g with stack := rest } (.invokespecial index) mk (Value.ref a :: argsL).toArray X₁ rfl hsize hdg hW (X₁.named hnamed) (hpre vm₁ X₁.warmed) with ⟨v, B, X', hpost, hsteps⟩ | ⟨q, B, X', hpost, hsteps⟩
  · exact Or.inl ⟨v, vm₁, B, X₁.warmed, X', hpost, fun target h => hstep₁ _ fun acts => by rw [doInvoke_state]; exact hsteps.trans h⟩
  · exact Or.inr ⟨q, vm₁, B, X₁.warmed, X', hpost, hstep₁ _ fun acts => by rw [doInvoke_state]; exact hsteps⟩
end VXIA
section VXIB
variable {p : Program} {l : Launch} {e : Env} {R : Room} {s : State} {m : MethodId} {args : Array Value} {below : List Frame} {meth : Method} {c : Code} {H : Heap} {locs : List Loc} {cells slots : Nat}
variable {y : MethodName} {bytes cc : ByteArray} {maxL nL mc ms n index : Nat} {ret : Option FieldType} {ws : List Cond} {rm : Room} {Pc : Array Value → State → Prop} {Qc : Array Value → State → Outcome → State → Prop} {XC : String → State → State → Prop} {free : Addr → Prop} {Ts : List Cond} {own C : String} {b : Addr} {As rest : List Value} {g : JFrame}
theorem vx_runI (S : CallFix p m c cc nL s args Ts own) (hM : vx_Met l y ws rm Pc Qc XC mc ms free) (cw : CallB R s args own index y bytes maxL none ws rm mc ms n ∧ y.name = "<init>" ∧ (Cond.instanceMethod y).before args s = true) (hp : PreS s H Pc (.ref b :: As))
    (hg : g.method = m) (hn : As.length = n) (hsize : g.locals.size = nL) (hstack : g.stack = As.reverse ++ .ref b :: rest) (hW : 2 * g.monitorRoom + (rest.map fun v => v.category).sum ≤ 8) (hdg : decode cc g.pc = .ok (.invokespecial index, 3)) (hf : cells + mc ≤ R.cells ∧ slots + ms ≤ R.slots) :
    vx_Run p l e R s m args below meth c H locs cells slots mc ms g rest (Qc (Value.ref b :: As).toArray) XC free := by
  have hK : vx_Back l R p e below s args y 3 8 (PreOf R mc ms Pc) (PostOf Qc mc ms free) (vx_Post XC mc ms free) := vx_callBack cw.1 hM hp.1
  obtain ⟨⟨-, -, -, -, -, -, hcode, -, hy, hlen, hl⟩, hy1, hin⟩ := cw
  obtain ⟨hx, hb, hml, ho, -⟩ := S
  have hPc := hp.2
  intro T hT X
  rcases vx_callI X hx (bytes := bytes) (maxL := maxL) ho hy1 hl hin hcode hy hK hg (hsize.trans hml.symm) (a := b) (argsL := As) (rest := rest) (fun sig h => hn.trans (hlen sig h)) hstack hW (by rw [hb]; exact hdg)
    (fun vm₁ hW₁ => ⟨hf.1, hf.2, hPc (T.setVm vm₁) hT hW₁⟩) with ⟨v, vm₁, ⟨U', l2, c2, s2⟩, hW₁, X', ⟨g', mk, t, L, e1, e2, hq, h1, hL, h2, h3⟩, st⟩ | ⟨q, vm₁, ⟨U', l2, c2, s2⟩, hW₁, X', ⟨g', mk, t, L, E, ce, e1, e2, hq, hce, hcv, hcl, h1, hL, h2, h3⟩, st⟩
  · dsimp only [Pt.U, Pt.locs, Pt.cells, Pt.slots] at X' e1 e2 h1 h2 h3 st
    subst h1; subst h2; subst h3
    exact Or.inl ⟨v, (T.setVm vm₁).calling g' mk (Value.ref b :: As).toArray, t, U', L, hT, X', hL, e1, e2, hq, st⟩
  · dsimp only [Pt.U, Pt.locs, Pt.cells, Pt.slots] at X' e1 e2 h1 h2 h3 st hcl
    subst h1; subst h2; subst h3
    exact Or.inr ⟨q, (T.setVm vm₁).calling g' mk (Value.ref b :: As).toArray, t, U', L, E, ce, hT, X', hL, e1, e2, hq, hce, hcv, vx_cls hW₁ hcl, st⟩
end VXIB
/-! ===== END ===== -/
/-! ===== BEGIN a private constructor of a nest mate that throws ===== -/
section VXIC
variable {p : Program} {l : Launch} {e : Env} {R : Room} {s : State} {m : MethodId} {args : Array Value} {below : List Frame} {meth : Method} {c : Code} {T : State} {locs : List Loc} {cells slots : Nat}
theorem vx_callIN (X : Stand p l e R s m args below meth c T locs cells slots) (hexec : p.tables.exec = Jvm.exec) {own : String} {index : Nat} {host : String} {y : MethodName} {bytes : ByteArray} {maxL : Nat}
    (hown : s.vm.findClass own = some m.cls) (hy1 : y.name = "<init>") (hlink : (Cond.methodLinkNest own index y host).before args s = true) (hinst : (Cond.instanceMethod y).before args s = true)
    (hcode : (Cond.code y bytes maxL none).before args s = true) (hy : y.cls ≠ "java/lang/invoke/MethodHandle" ∧ y.cls ≠ "java/lang/invoke/VarHandle")
    {W9 : Nat} {Pre : Pt → Array Value → Prop} {Post : Pt → Array Value → Option Value → Pt → Prop} {PostX : Pt → Array Value → Addr → Pt → Prop} (hK : vx_Back l R p e below s args y 3 W9 Pre Post PostX)
    {g : JFrame} (hg : g.method = m) (hsize : g.locals.size = c.maxLocals) {a : Addr} {argsL rest : List Value} (hlen : ∀ sig, parseMethodDescriptor y.desc = some sig → argsL.length = sig.parameters.length)
    (hstack : g.stack = argsL.reverse ++ .ref a :: rest) (hW : 2 * g.monitorRoom + (rest.map fun v => v.category).sum ≤ W9) (hdg : decode c.code g.pc = .ok (.invokespecial index, 3))
    (hpre : ∀ vm₁, s.WarmedH vm₁ → Pre ⟨T.setVm vm₁, locs, cells, slots⟩ (Value.ref a :: argsL).toArray) :
    (∃ (v : Option Value) (vm₁ : Vm) (B : Pt), s.WarmedH vm₁ ∧ Stand p l e R s m args below meth c B.U B.locs B.cells B.slots ∧ Post ⟨T.setVm vm₁, locs, cells, slots⟩ (Value.ref a :: argsL).toArray v B ∧
      ∀ target, Steps p.tables e below (B.U.setTop { g with pc := g.pc + 3, stack := v.toList ++ rest }) target → Steps p.tables e below (T.setTop g) target) ∨
    (∃ (q : Addr) (vm₁ : Vm) (B : Pt), s.WarmedH vm₁ ∧ Stand p l e R s m args below meth c B.U B.locs B.cells B.slots ∧ PostX ⟨T.setVm vm₁, locs, cells, slots⟩ (Value.ref a :: argsL).toArray q B ∧
      Steps p.tables e below (T.setTop g) ((B.U.setTop { g with stack := rest }).pushFrame (.throwing q))) := by
  subst hg
  have hpl : e.platform.magicAccessors = ({} : Platform).magicAccessors := by rw [X.admits.platform]
  obtain ⟨mk, methM, cM, kP, vm₁, hnamed, hmethM, hcodeM, -, hlocalsM, -, hkP, -, hW₁, hstep₁⟩ := Steps.initColdArgsNest (e := e) X.here hexec X.warmed hpl hown hy1 hy hlink hinst hcode (f := g) rfl hlen hstack hdg
  have X₁ := X.noted hW₁
  rcases hK g.method meth c ⟨T.setVm vm₁, locs, cells, slots⟩ { g with stack := rest } (.invokespecial index) mk (Value.ref a :: argsL).toArray X₁ rfl hsize hdg hW (X₁.named hnamed) (hpre vm₁ X₁.warmed) with ⟨v, B, X', hpost, hsteps⟩ | ⟨q, B, X', hpost, hsteps⟩
  · exact Or.inl ⟨v, vm₁, B, X₁.warmed, X', hpost, fun target h => hstep₁ _ fun acts => by rw [doInvoke_state]; exact hsteps.trans h⟩
  · exact Or.inr ⟨q, vm₁, B, X₁.warmed, X', hpost, hstep₁ _ fun acts => by rw [doInvoke_state]; exact hsteps⟩
end VXIC
section VXID
variable {p : Program} {l : Launch} {e : Env} {R : Room} {s : State} {m : MethodId} {args : Array Value} {below : List Frame} {meth : Method} {c : Code} {H : Heap} {locs : List Loc} {cells slots : Nat}
theorem vx_runIN {y : MethodName} {bytes cc : ByteArray} {maxL nL mc ms n index : Nat} {ws : List Cond} {rm : Room} {Pc : Array Value → State → Prop} {Qc : Array Value → State → Outcome → State → Prop} {XC : String → State → State → Prop} {free : Addr → Prop} {Ts : List Cond} {own host : String} {b : Addr} {As rest : List Value} {g : JFrame}
    (S : CallFix p m c cc nL s args Ts own) (hM : vx_Met l y ws rm Pc Qc XC mc ms free) (cw : va_CN R s args own index y host bytes maxL none ws rm mc ms n ∧ y.name = "<init>" ∧ (Cond.instanceMethod y).before args s = true) (hp : PreS s H Pc (.ref b :: As))
    (hg : g.method = m) (hn : As.length = n) (hsize : g.locals.size = nL) (hstack : g.stack = As.reverse ++ .ref b :: rest) (hW : 2 * g.monitorRoom + (rest.map fun v => v.category).sum ≤ 8) (hdg : decode cc g.pc = .ok (.invokespecial index, 3)) (hf : cells + mc ≤ R.cells ∧ slots + ms ≤ R.slots) :
    vx_Run p l e R s m args below meth c H locs cells slots mc ms g rest (Qc (Value.ref b :: As).toArray) XC free := by
  obtain ⟨⟨⟨hrc, hrs, hfr, hlo, hws, hcw⟩, hcode, hini, hy, hlen, hl⟩, hx1, hx2⟩ := cw
  have hK : vx_Back l R p e below s args y 3 8 (PreOf R mc ms Pc) (PostOf Qc mc ms free) (vx_Post XC mc ms free) := vx_back (bytes := bytes) (maxL := maxL) (ret := none) hM hp.1 hrc hrs hfr hlo hws hcw (fun a' U hW => word_at hW (Or.inl (by first | rfl | simp [Cond.onTables, Cond.keeps, Cond.steady])) hini)
  obtain ⟨hx, hb, hml, ho, -⟩ := S
  have hPc := hp.2
  intro T hT X
  rcases vx_callIN X hx (bytes := bytes) (maxL := maxL) ho hx1 hl hx2 hcode hy hK hg (hsize.trans hml.symm) (a := b) (argsL := As) (rest := rest) (fun sig h => hn.trans (hlen sig h)) hstack hW (by rw [hb]; exact hdg)
    (fun vm₁ hW₁ => ⟨hf.1, hf.2, hPc (T.setVm vm₁) hT hW₁⟩) with ⟨v, vm₁, ⟨U', l2, c2, s2⟩, hW₁, X', ⟨g', mk, t, L, e1, e2, hq, h1, hL, h2, h3⟩, st⟩ | ⟨q, vm₁, ⟨U', l2, c2, s2⟩, hW₁, X', ⟨g', mk, t, L, E, ce, e1, e2, hq, hce, hcv, hcl, h1, hL, h2, h3⟩, st⟩
  · dsimp only [Pt.U, Pt.locs, Pt.cells, Pt.slots] at X' e1 e2 h1 h2 h3 st
    subst h1; subst h2; subst h3
    exact Or.inl ⟨v, (T.setVm vm₁).calling g' mk (Value.ref b :: As).toArray, t, U', L, hT, X', hL, e1, e2, hq, st⟩
  · dsimp only [Pt.U, Pt.locs, Pt.cells, Pt.slots] at X' e1 e2 h1 h2 h3 st hcl
    subst h1; subst h2; subst h3
    exact Or.inr ⟨q, (T.setVm vm₁).calling g' mk (Value.ref b :: As).toArray, t, U', L, E, ce, hT, X', hL, e1, e2, hq, hce, hcv, vx_cls hW₁ hcl, st⟩
end VXID
/-! ===== END ===== -/
/-! ===== BEGIN a method of a class above, found by the receiver, that may throw (follows va_callVU, va_runU of this kit) ===== -/
section
variable {p : Program} {l : Launch} {e : Env} {R : Room} {s : State} {m : MethodId} {args : Array Value} {below : List Frame} {meth : Method} {c : Code} {H : Heap} {locs : List Loc} {cells slots : Nat}
theorem vx_callVU {T : State} {locs : List Loc} {cells slots : Nat} (X : Stand p l e R s m args below meth c T locs cells slots) (hexec : p.tables.exec = Jvm.exec) {own C owner : String} {index : Nat} {x y : MethodName} {bytes : ByteArray} {maxL : Nat} {ret : Option FieldType}
    (hown : s.vm.findClass own = some m.cls) (hlink : (Cond.methodLink own index x).before args s = true) (hsame : (Cond.sameMethod x.cls owner x.name x.desc).before args s = true)
    (hd0 : va_Decl s ⟨owner, x.name, x.desc⟩) (howner : owner ≠ "java/lang/invoke/MethodHandle" ∧ owner ≠ "java/lang/invoke/VarHandle")
    (hsel : (Cond.selects C x y).before args s = true) (hinst : (Cond.instanceMethod y).before args s = true) (hcode : (Cond.code y bytes maxL ret).before args s = true)
    {W : Nat} {Pre : Pt → Array Value → Prop} {Post : Pt → Array Value → Option Value → Pt → Prop} {PostX : Pt → Array Value → Addr → Pt → Prop} (hK : vx_Back l R p e below s args y 3 W Pre Post PostX)
    {b : Addr} {cellB : Cell} (hcell : T.heap[b]? = some cellB) (hobj : cellB.vm.isStatics = false) (hcls : s.vm.findClass C = some cellB.cls)
    {g : JFrame} (hg : g.method = m) (hsize : g.locals.size = c.maxLocals) {argsL rest : List Value} (hlen : ∀ sig, parseMethodDescriptor x.desc = some sig → argsL.length = sig.parameters.length)
    (hstack : g.stack = argsL.reverse ++ .ref b :: rest) (hW : 2 * g.monitorRoom + (rest.map fun v => v.category).sum ≤ W) (hdg : decode c.code g.pc = .ok (.invokevirtual index, 3))
    (hpre : ∀ vm₁, s.WarmedH vm₁ → Pre ⟨T.setVm vm₁, locs, cells, slots⟩ (Value.ref b :: argsL).toArray) :
    (∃ (v : Option Value) (vm₁ : Vm) (B : Pt), s.WarmedH vm₁ ∧ Stand p l e R s m args below meth c B.U B.locs B.cells B.slots ∧ Post ⟨T.setVm vm₁, locs, cells, slots⟩ (Value.ref b :: argsL).toArray v B ∧
      ∀ target, Steps p.tables e below (B.U.setTop { g with pc := g.pc + 3, stack := v.toList ++ rest }) target → Steps p.tables e below (T.setTop g) target) ∨
    (∃ (q : Addr) (vm₁ : Vm) (B : Pt), s.WarmedH vm₁ ∧ Stand p l e R s m args below meth c B.U B.locs B.cells B.slots ∧ PostX ⟨T.setVm vm₁, locs, cells, slots⟩ (Value.ref b :: argsL).toArray q B ∧
      Steps p.tables e below (T.setTop g) ((B.U.setTop { g with stack := rest }).pushFrame (.throwing q))) := by
  obtain ⟨r0, r, hn, hrm, hstR, hsigR⟩ := hd0
  obtain ⟨cn, ck, r1, hcn, hck, hni, hf, hn1⟩ := Cond.sameMethod_found hsame
  cases hn.symm.trans hn1
  obtain ⟨mk, methM, hnamed, hmethM, -, habM⟩ := Cond.instanceMethod_spec hinst
  obtain ⟨c2, r2, m2, q1, q2, q3, q4, kP, hkP, hkPi⟩ := Cond.selects_spec hsel
  cases hcls.symm.trans q1
  cases hf.symm.trans q2
  cases hnamed.symm.trans q3
  have hselP : selectMethod e.platform s.vm cellB.cls r0 = .method mk := by rw [Launch.admits_selectMethod X.admits]; exact q4
  obtain ⟨vm₁, X₁, hstep₁⟩ := X.invokevirtualUp hexec hown hlink hsame howner hn hrm hstR (a := b) (cell := cellB) hcell
    (fun z h => by rw [h] at hobj; cases hobj) hselP hmethM habM hkP hkPi (g := g) hg (argsL := argsL) (rest := rest) (hlen _ hsigR) hstack hdg
  rcases hK m meth c ⟨T.setVm vm₁, locs, cells, slots⟩ { g with stack := rest } (.invokevirtual index) mk (Value.ref b :: argsL).toArray X₁ hg hsize hdg hW (X₁.named hnamed) (hpre vm₁ X₁.warmed) with ⟨v, B, X', hpost, hsteps⟩ | ⟨q, B, X', hpost, hsteps⟩
  · exact Or.inl ⟨v, vm₁, B, X₁.warmed, X', hpost, fun target h => hstep₁ _ fun acts => by rw [doInvoke_state]; exact hsteps.trans h⟩
  · exact Or.inr ⟨q, vm₁, B, X₁.warmed, X', hpost, hstep₁ _ fun acts => by rw [doInvoke_state]; exact hsteps⟩
theorem vx_runU {x y : MethodName} {bytes cc : ByteArray} {maxL nL mc ms n index : Nat} {ret : Option FieldType} {ws : List Cond} {rm : Room} {Pc : Array Value → State → Prop} {Qc : Array Value → State → Outcome → State → Prop} {XC : String → State → State → Prop} {free : Addr → Prop} {Ts : List Cond} {own C owner : String} {b : Addr} {As rest : List Value} {g : JFrame}
    (S : CallFix p m c cc nL s args Ts own) (hM : vx_Met l y ws rm Pc Qc XC mc ms free) (cw : va_CU R s args own C owner index x y bytes maxL ret ws rm mc ms n) (hp : PreV s H C b Pc As)
    (hg : g.method = m) (hn : As.length = n) (hsize : g.locals.size = nL) (hstack : g.stack = As.reverse ++ .ref b :: rest) (hW : 2 * g.monitorRoom + (rest.map fun v => v.category).sum ≤ 8) (hdg : decode cc g.pc = .ok (.invokevirtual index, 3)) (hf : cells + mc ≤ R.cells ∧ slots + ms ≤ R.slots) :
    vx_Run p l e R s m args below meth c H locs cells slots mc ms g rest (Qc (Value.ref b :: As).toArray) XC free := by
  obtain ⟨hrc, hrs, hfr, hlo, hws, hcw⟩ := cw.back
  have hini := cw.init
  have hK : vx_Back l R p e below s args y 3 8 (PreOf R mc ms Pc) (PostOf Qc mc ms free) (vx_Post XC mc ms free) := vx_back (bytes := bytes) (maxL := maxL) (ret := ret) hM hp.1 hrc hrs hfr hlo hws hcw (fun a' U hW => word_at hW (Or.inl (by first | rfl | simp [Cond.onTables, Cond.keeps, Cond.steady])) hini)
  obtain ⟨hx, hb, hml, ho, -⟩ := S
  obtain ⟨-, ⟨cellB, hcB, hoB, hclB⟩, hPc⟩ := hp
  intro T hT X
  rcases vx_callVU X hx (C := C) (owner := owner) (bytes := bytes) (maxL := maxL) (ret := ret) ho cw.link cw.same cw.decl cw.notMH cw.sel cw.inst cw.code hK (by rw [hT]; exact hcB) hoB hclB hg (hsize.trans hml.symm) (argsL := As) (rest := rest) (fun sig h => hn.trans (cw.len sig h)) hstack hW (by rw [hb]; exact hdg)
    (fun vm₁ hW₁ => ⟨hf.1, hf.2, hPc (T.setVm vm₁) hT hW₁⟩) with ⟨v, vm₁, ⟨U', l2, c2, s2⟩, hW₁, X', ⟨g', mk, t, L, e1, e2, hq, h1, hL, h2, h3⟩, st⟩ | ⟨q, vm₁, ⟨U', l2, c2, s2⟩, hW₁, X', ⟨g', mk, t, L, E, ce, e1, e2, hq, hce, hcv, hcl, h1, hL, h2, h3⟩, st⟩
  · dsimp only [Pt.U, Pt.locs, Pt.cells, Pt.slots] at X' e1 e2 h1 h2 h3 st
    subst h1; subst h2; subst h3
    exact Or.inl ⟨v, (T.setVm vm₁).calling g' mk (Value.ref b :: As).toArray, t, U', L, hT, X', hL, e1, e2, hq, st⟩
  · dsimp only [Pt.U, Pt.locs, Pt.cells, Pt.slots] at X' e1 e2 h1 h2 h3 st hcl
    subst h1; subst h2; subst h3
    exact Or.inr ⟨q, (T.setVm vm₁).calling g' mk (Value.ref b :: As).toArray, t, U', L, E, ce, hT, X', hL, e1, e2, hq, hce, hcv, vx_cls hW₁ hcl, st⟩
end
/-! ===== END ===== -/
/-! ===== BEGIN super.m(..) that may throw (follows va_callSU, va_runSU) ===== -/
section
variable {p : Program} {l : Launch} {e : Env} {R : Room} {s : State} {m : MethodId} {args : Array Value} {below : List Frame} {meth : Method} {c : Code} {H : Heap} {locs : List Loc} {cells slots : Nat}
theorem vx_callSU {T : State} {locs : List Loc} {cells slots : Nat} (X : Stand p l e R s m args below meth c T locs cells slots) (hexec : p.tables.exec = Jvm.exec) {own : String} {index : Nat} {y : MethodName} {bytes : ByteArray} {maxL : Nat} {ret : Option FieldType}
    (hown : s.vm.findClass own = some m.cls) (hlink : (Cond.methodLink own index y).before args s = true) (hsame : (Cond.sameMethod y.cls y.cls y.name y.desc).before args s = true) (hsup : (Cond.superclass own y.cls).before args s = true)
    (hinst : (Cond.instanceMethod y).before args s = true) (hcode : (Cond.code y bytes maxL ret).before args s = true) (hno : y.name ≠ "<init>")
    {W : Nat} {Pre : Pt → Array Value → Prop} {Post : Pt → Array Value → Option Value → Pt → Prop} {PostX : Pt → Array Value → Addr → Pt → Prop} (hK : vx_Back l R p e below s args y 3 W Pre Post PostX)
    {b : Addr} {cellB : Cell} {kB : Class} (hcell : T.heap[b]? = some cellB) (hobj : cellB.vm.isStatics = false) (hkB : s.vm.classes[cellB.cls]? = some kB)
    {g : JFrame} (hg : g.method = m) (hsize : g.locals.size = c.maxLocals) {argsL rest : List Value} (hlen : ∀ sig, parseMethodDescriptor y.desc = some sig → argsL.length = sig.parameters.length)
    (hstack : g.stack = argsL.reverse ++ .ref b :: rest) (hW : 2 * g.monitorRoom + (rest.map fun v => v.category).sum ≤ W) (hdg : decode c.code g.pc = .ok (.invokespecial index, 3))
    (hpre : ∀ vm₁, s.WarmedH vm₁ → Pre ⟨T.setVm vm₁, locs, cells, slots⟩ (Value.ref b :: argsL).toArray) :
    (∃ (v : Option Value) (vm₁ : Vm) (B : Pt), s.WarmedH vm₁ ∧ Stand p l e R s m args below meth c B.U B.locs B.cells B.slots ∧ Post ⟨T.setVm vm₁, locs, cells, slots⟩ (Value.ref b :: argsL).toArray v B ∧
      ∀ target, Steps p.tables e below (B.U.setTop { g with pc := g.pc + 3, stack := v.toList ++ rest }) target → Steps p.tables e below (T.setTop g) target) ∨
    (∃ (q : Addr) (vm₁ : Vm) (B : Pt), s.WarmedH vm₁ ∧ Stand p l e R s m args below meth c B.U B.locs B.cells B.slots ∧ PostX ⟨T.setVm vm₁, locs, cells, slots⟩ (Value.ref b :: argsL).toArray q B ∧
      Steps p.tables e below (T.setTop g) ((B.U.setTop { g with stack := rest }).pushFrame (.throwing q))) := by
  obtain ⟨mk, methM, hnamed, hmethM, hstM, habM⟩ := Cond.instanceMethod_spec hinst
  obtain ⟨methM', cM, hmethM', -, -, -, -, -, -, hsigM⟩ := Cond.code_spec hnamed hcode
  cases hmethM.symm.trans hmethM'
  obtain ⟨ps, dk, kp, hps, hdk, hkp, hsuper, -, -, hnid⟩ := Cond.superclass_spec hown hsup
  have hn : s.methodNamed? ⟨y.cls, y.name, y.desc⟩ = some mk := hnamed
  have hpm : ps = mk.cls := Option.some.inj (hps.symm.trans (findClass_of_methodNamed hnamed))
  have hsub : s.vm.isSubclass ps mk.cls = true := by rw [hpm]; simp [Vm.isSubclass, Vm.isSubclassAux]
  obtain ⟨vm₁, X₁, hstep₁⟩ := X.invokespecialUp hexec hown hlink hsame hn hmethM hstM habM hno hdk hnid hps hsuper hsub (a := b) (cell := cellB) hcell
    (fun z h => by rw [h] at hobj; cases hobj) hkB (g := g) hg (argsL := argsL) (rest := rest) (hlen _ hsigM) hstack hdg
  rcases hK m meth c ⟨T.setVm vm₁, locs, cells, slots⟩ { g with stack := rest } (.invokespecial index) mk (Value.ref b :: argsL).toArray X₁ hg hsize hdg hW (X₁.named hnamed) (hpre vm₁ X₁.warmed) with ⟨v, B, X', hpost, hsteps⟩ | ⟨q, B, X', hpost, hsteps⟩
  · exact Or.inl ⟨v, vm₁, B, X₁.warmed, X', hpost, fun target h => hstep₁ _ (by rw [doInvoke_state]; exact hsteps.trans h)⟩
  · exact Or.inr ⟨q, vm₁, B, X₁.warmed, X', hpost, hstep₁ _ (by rw [doInvoke_state]; exact hsteps)⟩
theorem vx_runSU {y : MethodName} {bytes cc : ByteArray} {maxL nL mc ms n index : Nat} {ret : Option FieldType} {ws : List Cond} {rm : Room} {Pc : Array Value → State → Prop} {Qc : Array Value → State → Outcome → State → Prop} {XC : String → State → State → Prop} {free : Addr → Prop} {Ts : List Cond} {own C : String} {cC : ClassId} {b : Addr} {As rest : List Value} {g : JFrame}
    (hat : ClassAt s C cC) (S : CallFix p m c cc nL s args Ts own) (hM : vx_Met l y ws rm Pc Qc XC mc ms free) (cw : va_CS R s args own index y bytes maxL ret ws rm mc ms n) (hp : PreV s H C b Pc As)
    (hg : g.method = m) (hn : As.length = n) (hsize : g.locals.size = nL) (hstack : g.stack = As.reverse ++ .ref b :: rest) (hW : 2 * g.monitorRoom + (rest.map fun v => v.category).sum ≤ 8) (hdg : decode cc g.pc = .ok (.invokespecial index, 3)) (hf : cells + mc ≤ R.cells ∧ slots + ms ≤ R.slots) :
    vx_Run p l e R s m args below meth c H locs cells slots mc ms g rest (Qc (Value.ref b :: As).toArray) XC free := by
  obtain ⟨⟨hrc, hrs, hfr, hlo, hws, hcw⟩, hl1, hl2, hl3, hl4, hini, hcode, hno, hlen⟩ := cw
  have hK : vx_Back l R p e below s args y 3 8 (PreOf R mc ms Pc) (PostOf Qc mc ms free) (vx_Post XC mc ms free) := vx_back (bytes := bytes) (maxL := maxL) (ret := ret) hM hp.1 hrc hrs hfr hlo hws hcw (fun a' U hW => word_at hW (Or.inl (by first | rfl | simp [Cond.onTables, Cond.keeps, Cond.steady])) hini)
  obtain ⟨hx, hb, hml, ho, -⟩ := S
  obtain ⟨-, ⟨cellB, hcB, hoB, hclB⟩, hPc⟩ := hp
  obtain ⟨hfc, kB, hkB, -⟩ := hat
  cases hfc.symm.trans hclB
  intro T hT X
  rcases vx_callSU X hx (bytes := bytes) (maxL := maxL) (ret := ret) ho hl1 hl2 hl3 hl4 hcode hno hK (by rw [hT]; exact hcB) hoB hkB hg (hsize.trans hml.symm) (argsL := As) (rest := rest) (fun sig h => hn.trans (hlen sig h)) hstack hW (by rw [hb]; exact hdg)
    (fun vm₁ hW₁ => ⟨hf.1, hf.2, hPc (T.setVm vm₁) hT hW₁⟩) with ⟨v, vm₁, ⟨U', l2, c2, s2⟩, hW₁, X', ⟨g', mk, t, L, e1, e2, hq, h1, hL, h2, h3⟩, st⟩ | ⟨q, vm₁, ⟨U', l2, c2, s2⟩, hW₁, X', ⟨g', mk, t, L, E, ce, e1, e2, hq, hce, hcv, hcl, h1, hL, h2, h3⟩, st⟩
  · dsimp only [Pt.U, Pt.locs, Pt.cells, Pt.slots] at X' e1 e2 h1 h2 h3 st
    subst h1; subst h2; subst h3
    exact Or.inl ⟨v, (T.setVm vm₁).calling g' mk (Value.ref b :: As).toArray, t, U', L, hT, X', hL, e1, e2, hq, st⟩
  · dsimp only [Pt.U, Pt.locs, Pt.cells, Pt.slots] at X' e1 e2 h1 h2 h3 st hcl
    subst h1; subst h2; subst h3
    exact Or.inr ⟨q, (T.setVm vm₁).calling g' mk (Value.ref b :: As).toArray, t, U', L, E, ce, hT, X', hL, e1, e2, hq, hce, hcv, vx_cls hW₁ hcl, st⟩
end
/-! ===== END ===== -/
/-! ===== BEGIN a private method of a nest mate that may throw (follows va_callVN, va_callSN, va_runVN, va_runSN) ===== -/
section
variable {p : Program} {l : Launch} {e : Env} {R : Room} {s : State} {m : MethodId} {args : Array Value} {below : List Frame} {meth : Method} {c : Code} {H : Heap} {locs : List Loc} {cells slots : Nat}
variable {T : State}
theorem vx_callVN (X : Stand p l e R s m args below meth c T locs cells slots) (hexec : p.tables.exec = Jvm.exec) {own C : String} {index : Nat} {host : String} {y : MethodName} {bytes : ByteArray} {maxL : Nat} {ret : Option FieldType}
    (hown : s.vm.findClass own = some m.cls) (hlink : (Cond.methodLinkNest own index y host).before args s = true) (hinst : (Cond.instanceMethod y).before args s = true) (hsel : (Cond.selects C y y).before args s = true)
    (hcode : (Cond.code y bytes maxL ret).before args s = true) (hy : y.cls ≠ "java/lang/invoke/MethodHandle" ∧ y.cls ≠ "java/lang/invoke/VarHandle")
    {W : Nat} {Pre : Pt → Array Value → Prop} {Post : Pt → Array Value → Option Value → Pt → Prop} {PostX : Pt → Array Value → Addr → Pt → Prop} (hK : vx_Back l R p e below s args y 3 W Pre Post PostX)
    {b : Addr} {cellB : Cell} (hcell : T.heap[b]? = some cellB) (hobj : cellB.vm.isStatics = false) (hcls : s.vm.findClass C = some cellB.cls)
    {g : JFrame} (hg : g.method = m) (hsize : g.locals.size = c.maxLocals) {argsL rest : List Value} (hlen : ∀ sig, parseMethodDescriptor y.desc = some sig → argsL.length = sig.parameters.length)
    (hstack : g.stack = argsL.reverse ++ .ref b :: rest) (hW : 2 * g.monitorRoom + (rest.map fun v => v.category).sum ≤ W) (hdg : decode c.code g.pc = .ok (.invokevirtual index, 3))
    (hpre : ∀ vm₁, s.WarmedH vm₁ → Pre ⟨T.setVm vm₁, locs, cells, slots⟩ (Value.ref b :: argsL).toArray) :
    (∃ (v : Option Value) (vm₁ : Vm) (B : Pt), s.WarmedH vm₁ ∧ Stand p l e R s m args below meth c B.U B.locs B.cells B.slots ∧ Post ⟨T.setVm vm₁, locs, cells, slots⟩ (Value.ref b :: argsL).toArray v B ∧
      ∀ target, Steps p.tables e below (B.U.setTop { g with pc := g.pc + 3, stack := v.toList ++ rest }) target → Steps p.tables e below (T.setTop g) target) ∨
    (∃ (q : Addr) (vm₁ : Vm) (B : Pt), s.WarmedH vm₁ ∧ Stand p l e R s m args below meth c B.U B.locs B.cells B.slots ∧ PostX ⟨T.setVm vm₁, locs, cells, slots⟩ (Value.ref b :: argsL).toArray q B ∧
      Steps p.tables e below (T.setTop g) ((B.U.setTop { g with stack := rest }).pushFrame (.throwing q))) := by
  obtain ⟨mk, methM, hnamed, hmethM, hstM, habM⟩ := Cond.instanceMethod_spec hinst
  obtain ⟨methM', cM, hmethM', -, -, -, -, -, -, hsigM⟩ := Cond.code_spec hnamed hcode
  cases hmethM.symm.trans hmethM'
  obtain ⟨c2, r2, m2, q1, q2, q3, q4, kP, hkP, hkPi⟩ := Cond.selects_spec hsel
  cases hcls.symm.trans q1
  cases (State.methodFound?_of_named hnamed hy).symm.trans q2
  cases hnamed.symm.trans q3
  have hselP : selectMethod e.platform s.vm cellB.cls mk = .method mk := by rw [Launch.admits_selectMethod X.admits]; exact q4
  obtain ⟨vm₁, X₁, hstep₁⟩ := X.invokevirtualNest hexec hown hlink hnamed hmethM hstM hkP hkPi hy (a := b) (cell := cellB) hcell
    (fun z h => by rw [h] at hobj; cases hobj) hselP hmethM habM hkP hkPi (g := g) hg (argsL := argsL) (rest := rest) (hlen _ hsigM) hstack hdg
  rcases hK m meth c ⟨T.setVm vm₁, locs, cells, slots⟩ { g with stack := rest } (.invokevirtual index) mk (Value.ref b :: argsL).toArray X₁ hg hsize hdg hW (X₁.named hnamed) (hpre vm₁ X₁.warmed) with ⟨v, B, X', hpost, hsteps⟩ | ⟨q, B, X', hpost, hsteps⟩
  · exact Or.inl ⟨v, vm₁, B, X₁.warmed, X', hpost, fun target h => hstep₁ _ fun acts => by rw [doInvoke_state]; exact hsteps.trans h⟩
  · exact Or.inr ⟨q, vm₁, B, X₁.warmed, X', hpost, hstep₁ _ fun acts => by rw [doInvoke_state]; exact hsteps⟩
theorem vx_callSN (X : Stand p l e R s m args below meth c T locs cells slots) (hexec : p.tables.exec = Jvm.exec) {own : String} {index : Nat} {host : String} {y : MethodName} {bytes : ByteArray} {maxL : Nat} {ret : Option FieldType}
    (hown : s.vm.findClass own = some m.cls) (hlink : (Cond.methodLinkNest own index y host).before args s = true) (hstat : (Cond.static y).before args s = true) (hinit : (Cond.initialized y.cls).before args s = true)
    (hcode : (Cond.code y bytes maxL ret).before args s = true) (hy : y.cls ≠ "java/lang/invoke/MethodHandle" ∧ y.cls ≠ "java/lang/invoke/VarHandle")
    {W : Nat} {Pre : Pt → Array Value → Prop} {Post : Pt → Array Value → Option Value → Pt → Prop} {PostX : Pt → Array Value → Addr → Pt → Prop} (hK : vx_Back l R p e below s args y 3 W Pre Post PostX)
    {g : JFrame} (hg : g.method = m) (hsize : g.locals.size = c.maxLocals) {argsL rest : List Value} (hlen : ∀ sig, parseMethodDescriptor y.desc = some sig → argsL.length = sig.parameters.length)
    (hstack : g.stack = argsL.reverse ++ rest) (hW : 2 * g.monitorRoom + (rest.map fun v => v.category).sum ≤ W) (hdg : decode c.code g.pc = .ok (.invokestatic index, 3))
    (hpre : ∀ vm₁, s.WarmedH vm₁ → Pre ⟨T.setVm vm₁, locs, cells, slots⟩ argsL.toArray) :
    (∃ (v : Option Value) (vm₁ : Vm) (B : Pt), s.WarmedH vm₁ ∧ Stand p l e R s m args below meth c B.U B.locs B.cells B.slots ∧ Post ⟨T.setVm vm₁, locs, cells, slots⟩ argsL.toArray v B ∧
      ∀ target, Steps p.tables e below (B.U.setTop { g with pc := g.pc + 3, stack := v.toList ++ rest }) target → Steps p.tables e below (T.setTop g) target) ∨
    (∃ (q : Addr) (vm₁ : Vm) (B : Pt), s.WarmedH vm₁ ∧ Stand p l e R s m args below meth c B.U B.locs B.cells B.slots ∧ PostX ⟨T.setVm vm₁, locs, cells, slots⟩ argsL.toArray q B ∧
      Steps p.tables e below (T.setTop g) ((B.U.setTop { g with stack := rest }).pushFrame (.throwing q))) := by
  obtain ⟨mk, hnamed⟩ := Cond.code_named hcode
  obtain ⟨methM, cM, hmethM, -, -, -, -, -, -, hsigM⟩ := Cond.code_spec hnamed hcode
  have hstatic : methM.isStatic = true := Cond.static_spec hnamed hmethM hstat
  obtain ⟨kP, hkP, -⟩ := className_of_methodNamed hnamed
  have hinitP : kP.init = .initialized := Cond.initialized_spec (findClass_of_methodNamed hnamed) hkP hinit
  obtain ⟨vm₁, X₁, hstep₁⟩ := X.invokestaticNest hexec hown hlink hnamed hmethM hstatic hkP hinitP hy (g := g) hg (argsL := argsL) (rest := rest) (hlen _ hsigM) hstack hdg
  rcases hK m meth c ⟨T.setVm vm₁, locs, cells, slots⟩ { g with stack := rest } (.invokestatic index) mk argsL.toArray X₁ hg hsize hdg hW (X₁.named hnamed) (hpre vm₁ X₁.warmed) with ⟨v, B, X', hpost, hsteps⟩ | ⟨q, B, X', hpost, hsteps⟩
  · exact Or.inl ⟨v, vm₁, B, X₁.warmed, X', hpost, fun target h => hstep₁ _ fun acts => by rw [doInvoke_state]; exact hsteps.trans h⟩
  · exact Or.inr ⟨q, vm₁, B, X₁.warmed, X', hpost, hstep₁ _ fun acts => by rw [doInvoke_state]; exact hsteps⟩
theorem vx_runVN {y : MethodName} {bytes cc : ByteArray} {maxL nL mc ms n index : Nat} {ret : Option FieldType} {ws : List Cond} {rm : Room} {Pc : Array Value → State → Prop} {Qc : Array Value → State → Outcome → State → Prop} {XC : String → State → State → Prop} {free : Addr → Prop} {Ts : List Cond} {own C host : String} {b : Addr} {As rest : List Value} {g : JFrame}
    (S : CallFix p m c cc nL s args Ts own) (hM : vx_Met l y ws rm Pc Qc XC mc ms free) (cw : va_CN R s args own index y host bytes maxL ret ws rm mc ms n ∧ (Cond.instanceMethod y).before args s = true ∧ (Cond.selects C y y).before args s = true) (hp : PreV s H C b Pc As)
    (hg : g.method = m) (hn : As.length = n) (hsize : g.locals.size = nL) (hstack : g.stack = As.reverse ++ .ref b :: rest) (hW : 2 * g.monitorRoom + (rest.map fun v => v.category).sum ≤ 8) (hdg : decode cc g.pc = .ok (.invokevirtual index, 3)) (hf : cells + mc ≤ R.cells ∧ slots + ms ≤ R.slots) :
    vx_Run p l e R s m args below meth c H locs cells slots mc ms g rest (Qc (Value.ref b :: As).toArray) XC free := by
  obtain ⟨⟨⟨hrc, hrs, hfr, hlo, hws, hcw⟩, hcode, hini, hy, hlen, hl⟩, hx1, hx2⟩ := cw
  have hK : vx_Back l R p e below s args y 3 8 (PreOf R mc ms Pc) (PostOf Qc mc ms free) (vx_Post XC mc ms free) := vx_back (bytes := bytes) (maxL := maxL) (ret := ret) hM hp.1 hrc hrs hfr hlo hws hcw (fun a' U hW => word_at hW (Or.inl (by first | rfl | simp [Cond.onTables, Cond.keeps, Cond.steady])) hini)
  obtain ⟨hx, hb, hml, ho, -⟩ := S
  obtain ⟨-, ⟨cellB, hcB, hoB, hclB⟩, hPc⟩ := hp
  intro T hT X
  rcases vx_callVN X hx (C := C) (bytes := bytes) (maxL := maxL) (ret := ret) ho hl hx1 hx2 hcode hy hK (by rw [hT]; exact hcB) hoB hclB hg (hsize.trans hml.symm) (argsL := As) (rest := rest) (fun sig h => hn.trans (hlen sig h)) hstack hW (by rw [hb]; exact hdg)
    (fun vm₁ hW₁ => ⟨hf.1, hf.2, hPc (T.setVm vm₁) hT hW₁⟩) with ⟨v, vm₁, ⟨U', l2, c2, s2⟩, hW₁, X', ⟨g', mk, t, L, e1, e2, hq, h1, hL, h2, h3⟩, st⟩ | ⟨q, vm₁, ⟨U', l2, c2, s2⟩, hW₁, X', ⟨g', mk, t, L, E, ce, e1, e2, hq, hce, hcv, hcl, h1, hL, h2, h3⟩, st⟩
  · dsimp only [Pt.U, Pt.locs, Pt.cells, Pt.slots] at X' e1 e2 h1 h2 h3 st
    subst h1; subst h2; subst h3
    exact Or.inl ⟨v, (T.setVm vm₁).calling g' mk (Value.ref b :: As).toArray, t, U', L, hT, X', hL, e1, e2, hq, st⟩
  · dsimp only [Pt.U, Pt.locs, Pt.cells, Pt.slots] at X' e1 e2 h1 h2 h3 st hcl
    subst h1; subst h2; subst h3
    exact Or.inr ⟨q, (T.setVm vm₁).calling g' mk (Value.ref b :: As).toArray, t, U', L, E, ce, hT, X', hL, e1, e2, hq, hce, hcv, vx_cls hW₁ hcl, st⟩
theorem vx_runSN {y : MethodName} {bytes cc : ByteArray} {maxL nL mc ms n index : Nat} {ret : Option FieldType} {ws : List Cond} {rm : Room} {Pc : Array Value → State → Prop} {Qc : Array Value → State → Outcome → State → Prop} {XC : String → State → State → Prop} {free : Addr → Prop} {Ts : List Cond} {own host : String} {As rest : List Value} {g : JFrame}
    (S : CallFix p m c cc nL s args Ts own) (hM : vx_Met l y ws rm Pc Qc XC mc ms free) (cw : va_CN R s args own index y host bytes maxL ret ws rm mc ms n ∧ (Cond.static y).before args s = true ∧ True) (hp : PreS s H Pc As)
    (hg : g.method = m) (hn : As.length = n) (hsize : g.locals.size = nL) (hstack : g.stack = As.reverse ++ rest) (hW : 2 * g.monitorRoom + (rest.map fun v => v.category).sum ≤ 8) (hdg : decode cc g.pc = .ok (.invokestatic index, 3)) (hf : cells + mc ≤ R.cells ∧ slots + ms ≤ R.slots) :
    vx_Run p l e R s m args below meth c H locs cells slots mc ms g rest (Qc As.toArray) XC free := by
  obtain ⟨⟨⟨hrc, hrs, hfr, hlo, hws, hcw⟩, hcode, hini, hy, hlen, hl⟩, hx1, hx2⟩ := cw
  have hK : vx_Back l R p e below s args y 3 8 (PreOf R mc ms Pc) (PostOf Qc mc ms free) (vx_Post XC mc ms free) := vx_back (bytes := bytes) (maxL := maxL) (ret := ret) hM hp.1 hrc hrs hfr hlo hws hcw (fun a' U hW => word_at hW (Or.inl (by first | rfl | simp [Cond.onTables, Cond.keeps, Cond.steady])) hini)
  obtain ⟨hx, hb, hml, ho, -⟩ := S
  have hPc := hp.2
  intro T hT X
  rcases vx_callSN X hx (bytes := bytes) (maxL := maxL) (ret := ret) ho hl hx1 hini hcode hy hK hg (hsize.trans hml.symm) (argsL := As) (rest := rest) (fun sig h => hn.trans (hlen sig h)) hstack hW (by rw [hb]; exact hdg)
    (fun vm₁ hW₁ => ⟨hf.1, hf.2, hPc (T.setVm vm₁) hT hW₁⟩) with ⟨v, vm₁, ⟨U', l2, c2, s2⟩, hW₁, X', ⟨g', mk, t, L, e1, e2, hq, h1, hL, h2, h3⟩, st⟩ | ⟨q, vm₁, ⟨U', l2, c2, s2⟩, hW₁, X', ⟨g', mk, t, L, E, ce, e1, e2, hq, hce, hcv, hcl, h1, hL, h2, h3⟩, st⟩
  · dsimp only [Pt.U, Pt.locs, Pt.cells, Pt.slots] at X' e1 e2 h1 h2 h3 st
    subst h1; subst h2; subst h3
    exact Or.inl ⟨v, (T.setVm vm₁).calling g' mk As.toArray, t, U', L, hT, X', hL, e1, e2, hq, st⟩
  · dsimp only [Pt.U, Pt.locs, Pt.cells, Pt.slots] at X' e1 e2 h1 h2 h3 st hcl
    subst h1; subst h2; subst h3
    exact Or.inr ⟨q, (T.setVm vm₁).calling g' mk As.toArray, t, U', L, E, ce, hT, X', hL, e1, e2, hq, hce, hcv, vx_cls hW₁ hcl, st⟩
end
/-! ===== END ===== -/
/-! ===== BEGIN calls by an interface of methods that may throw (vx_callIF, vx_runF follow va_callIF, va_runF of this kit) ===== -/
section
variable {p : Program} {l : Launch} {e : Env} {R : Room} {s : State} {m : MethodId} {args : Array Value} {below : List Frame} {meth : Method} {c : Code} {H : Heap} {locs : List Loc} {cells slots : Nat} {Q : State → Prop}
variable {mc ms : Nat} {free : Addr → Prop} {A0 A1 : Nat → Prop} {H0 : Heap} {a : Array Value} {pc : Nat} {ls : Array Slot} {st0 rest : List Value}
def vx_Run5 (p : Program) (l : Launch) (e : Env) (R : Room) (s : State) (m : MethodId) (args : Array Value) (below : List Frame) (meth : Method) (c : Code) (H : Heap) (locs : List Loc) (cells slots mc ms : Nat) (g : JFrame) (rest : List Value) (Qa : State → Outcome → State → Prop) (XC : String → State → State → Prop) (free : Addr → Prop) : Prop :=
  ∀ T : State, T.heap = H → Stand p l e R s m args below meth c T locs cells slots →
    (∃ (v : Option Value) (st₀ t T' : State) (L : List Loc), st₀.heap = H ∧ Stand p l e R s m args below meth c T' (locs ++ L) (cells + mc) (slots + ms) ∧ (∀ q ∈ L, free q.base) ∧ T'.heap = t.heap ∧ T'.vm = t.vm ∧ Qa st₀ (.returned v) t ∧
      Goes p e below T g T' { g with pc := g.pc + 5, stack := v.toList ++ rest }) ∨
    (∃ (q : Addr) (st₀ t T' : State) (L : List Loc) (E : String) (ce : Cell), st₀.heap = H ∧ Stand p l e R s m args below meth c T' (locs ++ L) (cells + mc) (slots + ms) ∧ (∀ z ∈ L, free z.base) ∧ T'.heap = t.heap ∧ T'.vm = t.vm ∧ XC E st₀ t ∧ t.heap[q]? = some ce ∧ ce.vm = .none ∧ s.vm.findClass E = some ce.cls ∧
      Steps p.tables e below (T.setTop g) ((T'.setTop { g with stack := rest }).pushFrame (.throwing q)))
theorem vx_callIF {T : State} (X : Stand p l e R s m args below meth c T locs cells slots) (hexec : p.tables.exec = Jvm.exec) {own C : String} {index count : Nat} {x y : MethodName} {bytes : ByteArray} {maxL : Nat} {ret : Option FieldType}
    (hown : s.vm.findClass own = some m.cls) (hlink : (Cond.methodLink own index x).before args s = true) (hdecl : (Cond.declares x).before args s = true) (hface : (Cond.interfaceMethod x.cls x.cls x.name x.desc).before args s = true)
    (hsel : (Cond.selects C x y).before args s = true) (hinst : (Cond.instanceMethod y).before args s = true) (hpub : (Cond.publicMethod y).before args s = true) (hunh : (Cond.unhidden C x.name x.desc).before args s = true)
    (hcast : (Cond.castable C x.cls).before args s = true) (hcode : (Cond.code y bytes maxL ret).before args s = true) (hx : x.cls ≠ "java/lang/invoke/MethodHandle" ∧ x.cls ≠ "java/lang/invoke/VarHandle")
    {W9 : Nat} {Pre : Pt → Array Value → Prop} {Post : Pt → Array Value → Option Value → Pt → Prop} {PostX : Pt → Array Value → Addr → Pt → Prop} (hK : vx_Back l R p e below s args y 5 W9 Pre Post PostX)
    {b : Addr} {cellB : Cell} {kB : Class} (hcell : T.heap[b]? = some cellB) (hobj : cellB.vm.isStatics = false) (hcls : s.vm.findClass C = some cellB.cls) (hkB : s.vm.classes[cellB.cls]? = some kB)
    {g : JFrame} (hg : g.method = m) (hsize : g.locals.size = c.maxLocals) {argsL rest : List Value} (hlen : ∀ sig, parseMethodDescriptor x.desc = some sig → argsL.length = sig.parameters.length)
    (hstack : g.stack = argsL.reverse ++ .ref b :: rest) (hW : 2 * g.monitorRoom + (rest.map fun v => v.category).sum ≤ W9) (hdg : decode c.code g.pc = .ok (.invokeinterface index count, 5))
    (hpre : ∀ vm₁, s.WarmedH vm₁ → Pre ⟨T.setVm vm₁, locs, cells, slots⟩ (Value.ref b :: argsL).toArray) :
    (∃ (v : Option Value) (vm₁ : Vm) (B : Pt), s.WarmedH vm₁ ∧ Stand p l e R s m args below meth c B.U B.locs B.cells B.slots ∧ Post ⟨T.setVm vm₁, locs, cells, slots⟩ (Value.ref b :: argsL).toArray v B ∧
      ∀ target, Steps p.tables e below (B.U.setTop { g with pc := g.pc + 5, stack := v.toList ++ rest }) target → Steps p.tables e below (T.setTop g) target) ∨
    (∃ (q : Addr) (vm₁ : Vm) (B : Pt), s.WarmedH vm₁ ∧ Stand p l e R s m args below meth c B.U B.locs B.cells B.slots ∧ PostX ⟨T.setVm vm₁, locs, cells, slots⟩ (Value.ref b :: argsL).toArray q B ∧
      Steps p.tables e below (T.setTop g) ((B.U.setTop { g with stack := rest }).pushFrame (.throwing q))) := by
  obtain ⟨r0, r, hn, hrm, hstR, hsigR⟩ := Cond.declares_spec hdecl
  obtain ⟨cL, kL, r1, hcL, hkL, hiL, hfoundL, hn1⟩ := Cond.interfaceMethod_spec hface
  cases hn.symm.trans hn1
  have hr0cls : r0.cls = cL := Option.some.inj ((findClass_of_methodNamed hn).symm.trans hcL)
  obtain ⟨hnameR, hdescR⟩ := name_of_methodNamed hn hrm
  obtain ⟨mk, methM, hnamed, hmethM, -, habM⟩ := Cond.instanceMethod_spec hinst
  obtain ⟨c2, r2, m2, q1, q2, q3, q4, -⟩ := Cond.selects_spec hsel
  cases hcls.symm.trans q1
  cases hfoundL.symm.trans q2
  cases hnamed.symm.trans q3
  have hselP : selectMethod e.platform s.vm cellB.cls r0 = .method mk := by rw [Launch.admits_selectMethod X.admits]; exact q4
  have hpubM : hasFlag methM.accessFlags Acc.public_ = true := Cond.publicMethod_spec hnamed hmethM hpub
  have hway : ((cellB.cls :: s.vm.superclasses cellB.cls).any fun k => (declaredIn s.vm r.name r.desc k).any fun (_, z) => z.isPrivate || z.isStatic) = false := by
    rw [hnameR, hdescR]; exact Cond.unhidden_spec hcls hunh
  obtain ⟨c3, t3, w1, w2, w3⟩ := Cond.castable_spec hcast
  cases hcls.symm.trans w1
  cases hcL.symm.trans w2
  obtain ⟨vm₁, X₁, hstep₁⟩ := X.invokeinterface hexec hown hlink hn hrm hstR (by rw [hr0cls]; exact hkL) hiL hx (a := b) (cell := cellB) (kcell := kB) hcell
    (fun z h => by rw [h] at hobj; cases hobj) hkB (by rw [hr0cls]; exact w3) hselP hmethM hway hpubM habM (g := g) hg (argsL := argsL) (rest := rest) (hlen _ hsigR) hstack hdg
  rcases hK m meth c ⟨T.setVm vm₁, locs, cells, slots⟩ { g with stack := rest } (.invokeinterface index count) mk (Value.ref b :: argsL).toArray X₁ hg hsize hdg hW (X₁.named hnamed) (hpre vm₁ X₁.warmed) with ⟨v, B, X', hpost, hsteps⟩ | ⟨q, B, X', hpost, hsteps⟩
  · exact Or.inl ⟨v, vm₁, B, X₁.warmed, X', hpost, fun target h => hstep₁ _ fun acts => by rw [doInvoke_state]; exact hsteps.trans h⟩
  · exact Or.inr ⟨q, vm₁, B, X₁.warmed, X', hpost, hstep₁ _ fun acts => by rw [doInvoke_state]; exact hsteps⟩
theorem vx_runF {x y : MethodName} {bytes cc : ByteArray} {maxL nL mc ms n index count : Nat} {ret : Option FieldType} {ws : List Cond} {rm : Room} {Pc : Array Value → State → Prop} {Qc : Array Value → State → Outcome → State → Prop} {XC : String → State → State → Prop} {free : Addr → Prop} {Ts : List Cond} {own C : String} {cC : ClassId} {b : Addr} {As rest : List Value} {g : JFrame}
    (hat : ClassAt s C cC) (S : CallFix p m c cc nL s args Ts own) (hM : vx_Met l y ws rm Pc Qc XC mc ms free) (cw : va_CI R s args own C index x y bytes maxL ret ws rm mc ms n) (hp : PreV s H C b Pc As)
    (hg : g.method = m) (hn : As.length = n) (hsize : g.locals.size = nL) (hstack : g.stack = As.reverse ++ .ref b :: rest) (hW : 2 * g.monitorRoom + (rest.map fun v => v.category).sum ≤ 8) (hdg : decode cc g.pc = .ok (.invokeinterface index count, 5)) (hf : cells + mc ≤ R.cells ∧ slots + ms ≤ R.slots) :
    vx_Run5 p l e R s m args below meth c H locs cells slots mc ms g rest (Qc (Value.ref b :: As).toArray) XC free := by
  obtain ⟨hrc, hrs, hfr, hlo, hws, hcw⟩ := cw.back
  have hini := cw.init
  have hK : vx_Back l R p e below s args y 5 8 (PreOf R mc ms Pc) (PostOf Qc mc ms free) (vx_Post XC mc ms free) := vx_back (bytes := bytes) (maxL := maxL) (ret := ret) hM hp.1 hrc hrs hfr hlo hws hcw (fun a' U hW => word_at hW (Or.inl (by first | rfl | simp [Cond.onTables, Cond.keeps, Cond.steady])) hini)
  obtain ⟨hx, hb, hml, ho, -⟩ := S
  obtain ⟨-, ⟨cellB, hcB, hoB, hclB⟩, hPc⟩ := hp
  obtain ⟨hfc, kB, hkB, -⟩ := hat
  cases hfc.symm.trans hclB
  intro T hT X
  rcases vx_callIF X hx (C := C) (bytes := bytes) (maxL := maxL) (ret := ret) ho cw.link cw.decl cw.face cw.sel cw.inst cw.pub cw.unh cw.cast cw.code cw.notMH hK (by rw [hT]; exact hcB) hoB hclB hkB hg (hsize.trans hml.symm) (argsL := As) (rest := rest) (fun sig h => hn.trans (cw.len sig h)) hstack hW (by rw [hb]; exact hdg)
    (fun vm₁ hW₁ => ⟨hf.1, hf.2, hPc (T.setVm vm₁) hT hW₁⟩) with ⟨v, vm₁, ⟨U', l2, c2, s2⟩, hW₁, X', ⟨g', mk, t, L, e1, e2, hq, h1, hL, h2, h3⟩, st⟩ | ⟨q, vm₁, ⟨U', l2, c2, s2⟩, hW₁, X', ⟨g', mk, t, L, E, ce, e1, e2, hq, hce, hcv, hcl, h1, hL, h2, h3⟩, st⟩
  · dsimp only [Pt.U, Pt.locs, Pt.cells, Pt.slots] at X' e1 e2 h1 h2 h3 st
    subst h1; subst h2; subst h3
    exact Or.inl ⟨v, (T.setVm vm₁).calling g' mk (Value.ref b :: As).toArray, t, U', L, hT, X', hL, e1, e2, hq, st⟩
  · dsimp only [Pt.U, Pt.locs, Pt.cells, Pt.slots] at X' e1 e2 h1 h2 h3 st hcl
    subst h1; subst h2; subst h3
    exact Or.inr ⟨q, (T.setVm vm₁).calling g' mk (Value.ref b :: As).toArray, t, U', L, E, ce, hT, X', hL, e1, e2, hq, hce, hcv, vx_cls hW₁ hcl, st⟩
theorem vx_callFv {S SX : Type} {post : S → Prop} {px : SX → Prop} {B : S → State → Prop} {BX : String → SX → State → Prop} {AX : Nat → Prop} (hr : vx_Run5 p l e R s m args below meth c H locs cells slots mc ms (F0 m pc ls st0) rest (va_Qv post B A1 a) (vx_X px BX AX) free) (hS : va_S A0 H0 H locs) (hA : ∀ q, q < H.size → A1 q → A0 q) (hf : ∀ q, free q → A0 q) (hAX : ∀ q, q < H.size → AX q → A0 q)
    (kx : ∀ (E : String) (ce : Cell) (q9 : Addr) (u : SX) (t : State) (H1 : Heap) (locs1 : List Loc), t.heap = H1 → s.vm.Alike t.vm → px u → BX E u t → H.size ≤ H1.size → (∀ q : Nat, q < H.size → ¬ AX q → H1[q]? = H[q]?) → va_S A0 H0 H1 locs1 → H1[q9]? = some ce → ce.vm = .none → s.vm.findClass E = some ce.cls → vx_W p l e R s m args below meth c H1 locs1 (cells + mc) (slots + ms) Q (F0 m pc ls rest) q9)
    (kk : ∀ (u : S) (t : State) (H1 : Heap) (locs1 : List Loc), t.heap = H1 → s.vm.Alike t.vm → post u → B u t → H.size ≤ H1.size → (∀ q : Nat, q < H.size → ¬ A1 q → H1[q]? = H[q]?) → va_S A0 H0 H1 locs1 → W p l e R s m args below meth c H1 locs1 (cells + mc) (slots + ms) Q (F0 m (pc + 5) ls (rest))) : W p l e R s m args below meth c H locs cells slots Q (F0 m pc ls st0) := by
  intro T hT X
  rcases hr T hT X with ⟨v, st₀, t, T', L, h0, X', hL, e1, e2, ⟨⟨u, hv, hp, hb⟩, hF⟩, st⟩ | ⟨q, st₀, t, T', L, E, ce, h0, X', hL, e1, e2, ⟨u, hp, hb, hF⟩, hce, hcv, hcl, st⟩
  · cases hv
    obtain ⟨k1, k2, k3⟩ := vx_keep h0 e1 hS hA hf hL hF
    obtain ⟨t2, a1, b1⟩ := kk u t T'.heap (locs ++ L) e1.symm (by rw [← e2]; exact X'.warmed.alike) hp hb k1 k2 k3 T' rfl X'
    exact ⟨t2, st t2 a1, b1⟩
  · obtain ⟨k1, k2, k3⟩ := vx_keep h0 e1 hS hAX hf hL hF
    obtain ⟨t2, a1, b1⟩ := kx E ce q u t T'.heap (locs ++ L) e1.symm (by rw [← e2]; exact X'.warmed.alike) hp hb k1 k2 k3 (by rw [e1]; exact hce) hcv hcl T' rfl X'
    exact ⟨t2, st.trans a1, b1⟩
theorem vx_callFi {S SX : Type} {post : Int32 → S → Prop} {px : SX → Prop} {B : S → State → Prop} {BX : String → SX → State → Prop} {AX : Nat → Prop} (hr : vx_Run5 p l e R s m args below meth c H locs cells slots mc ms (F0 m pc ls st0) rest (va_Qi post B A1 a) (vx_X px BX AX) free) (hS : va_S A0 H0 H locs) (hA : ∀ q, q < H.size → A1 q → A0 q) (hf : ∀ q, free q → A0 q) (hAX : ∀ q, q < H.size → AX q → A0 q)
    (kx : ∀ (E : String) (ce : Cell) (q9 : Addr) (u : SX) (t : State) (H1 : Heap) (locs1 : List Loc), t.heap = H1 → s.vm.Alike t.vm → px u → BX E u t → H.size ≤ H1.size → (∀ q : Nat, q < H.size → ¬ AX q → H1[q]? = H[q]?) → va_S A0 H0 H1 locs1 → H1[q9]? = some ce → ce.vm = .none → s.vm.findClass E = some ce.cls → vx_W p l e R s m args below meth c H1 locs1 (cells + mc) (slots + ms) Q (F0 m pc ls rest) q9)
    (kk : ∀ (r : Int32) (u : S) (t : State) (H1 : Heap) (locs1 : List Loc), t.heap = H1 → s.vm.Alike t.vm → post r u → B u t → H.size ≤ H1.size → (∀ q : Nat, q < H.size → ¬ A1 q → H1[q]? = H[q]?) → va_S A0 H0 H1 locs1 → W p l e R s m args below meth c H1 locs1 (cells + mc) (slots + ms) Q (F0 m (pc + 5) ls (.int r :: rest))) : W p l e R s m args below meth c H locs cells slots Q (F0 m pc ls st0) := by
  intro T hT X
  rcases hr T hT X with ⟨v, st₀, t, T', L, h0, X', hL, e1, e2, ⟨⟨r, u, hv, hp, hb⟩, hF⟩, st⟩ | ⟨q, st₀, t, T', L, E, ce, h0, X', hL, e1, e2, ⟨u, hp, hb, hF⟩, hce, hcv, hcl, st⟩
  · cases hv
    obtain ⟨k1, k2, k3⟩ := vx_keep h0 e1 hS hA hf hL hF
    obtain ⟨t2, a1, b1⟩ := kk r u t T'.heap (locs ++ L) e1.symm (by rw [← e2]; exact X'.warmed.alike) hp hb k1 k2 k3 T' rfl X'
    exact ⟨t2, st t2 a1, b1⟩
  · obtain ⟨k1, k2, k3⟩ := vx_keep h0 e1 hS hAX hf hL hF
    obtain ⟨t2, a1, b1⟩ := kx E ce q u t T'.heap (locs ++ L) e1.symm (by rw [← e2]; exact X'.warmed.alike) hp hb k1 k2 k3 (by rw [e1]; exact hce) hcv hcl T' rfl X'
    exact ⟨t2, st.trans a1, b1⟩
theorem vx_callFl {S SX : Type} {post : Int64 → S → Prop} {px : SX → Prop} {B : S → State → Prop} {BX : String → SX → State → Prop} {AX : Nat → Prop} (hr : vx_Run5 p l e R s m args below meth c H locs cells slots mc ms (F0 m pc ls st0) rest (va_Ql post B A1 a) (vx_X px BX AX) free) (hS : va_S A0 H0 H locs) (hA : ∀ q, q < H.size → A1 q → A0 q) (hf : ∀ q, free q → A0 q) (hAX : ∀ q, q < H.size → AX q → A0 q)
    (kx : ∀ (E : String) (ce : Cell) (q9 : Addr) (u : SX) (t : State) (H1 : Heap) (locs1 : List Loc), t.heap = H1 → s.vm.Alike t.vm → px u → BX E u t → H.size ≤ H1.size → (∀ q : Nat, q < H.size → ¬ AX q → H1[q]? = H[q]?) → va_S A0 H0 H1 locs1 → H1[q9]? = some ce → ce.vm = .none → s.vm.findClass E = some ce.cls → vx_W p l e R s m args below meth c H1 locs1 (cells + mc) (slots + ms) Q (F0 m pc ls rest) q9)
    (kk : ∀ (r : Int64) (u : S) (t : State) (H1 : Heap) (locs1 : List Loc), t.heap = H1 → s.vm.Alike t.vm → post r u → B u t → H.size ≤ H1.size → (∀ q : Nat, q < H.size → ¬ A1 q → H1[q]? = H[q]?) → va_S A0 H0 H1 locs1 → W p l e R s m args below meth c H1 locs1 (cells + mc) (slots + ms) Q (F0 m (pc + 5) ls (.long r :: rest))) : W p l e R s m args below meth c H locs cells slots Q (F0 m pc ls st0) := by
  intro T hT X
  rcases hr T hT X with ⟨v, st₀, t, T', L, h0, X', hL, e1, e2, ⟨⟨r, u, hv, hp, hb⟩, hF⟩, st⟩ | ⟨q, st₀, t, T', L, E, ce, h0, X', hL, e1, e2, ⟨u, hp, hb, hF⟩, hce, hcv, hcl, st⟩
  · cases hv
    obtain ⟨k1, k2, k3⟩ := vx_keep h0 e1 hS hA hf hL hF
    obtain ⟨t2, a1, b1⟩ := kk r u t T'.heap (locs ++ L) e1.symm (by rw [← e2]; exact X'.warmed.alike) hp hb k1 k2 k3 T' rfl X'
    exact ⟨t2, st t2 a1, b1⟩
  · obtain ⟨k1, k2, k3⟩ := vx_keep h0 e1 hS hAX hf hL hF
    obtain ⟨t2, a1, b1⟩ := kx E ce q u t T'.heap (locs ++ L) e1.symm (by rw [← e2]; exact X'.warmed.alike) hp hb k1 k2 k3 (by rw [e1]; exact hce) hcv hcl T' rfl X'
    exact ⟨t2, st.trans a1, b1⟩
theorem vx_callFf {S SX : Type} {post : UInt32 → S → Prop} {px : SX → Prop} {B : S → State → Prop} {BX : String → SX → State → Prop} {AX : Nat → Prop} (hr : vx_Run5 p l e R s m args below meth c H locs cells slots mc ms (F0 m pc ls st0) rest (va_Qf post B A1 a) (vx_X px BX AX) free) (hS : va_S A0 H0 H locs) (hA : ∀ q, q < H.size → A1 q → A0 q) (hf : ∀ q, free q → A0 q) (hAX : ∀ q, q < H.size → AX q → A0 q)
    (kx : ∀ (E : String) (ce : Cell) (q9 : Addr) (u : SX) (t : State) (H1 : Heap) (locs1 : List Loc), t.heap = H1 → s.vm.Alike t.vm → px u → BX E u t → H.size ≤ H1.size → (∀ q : Nat, q < H.size → ¬ AX q → H1[q]? = H[q]?) → va_S A0 H0 H1 locs1 → H1[q9]? = some ce → ce.vm = .none → s.vm.findClass E = some ce.cls → vx_W p l e R s m args below meth c H1 locs1 (cells + mc) (slots + ms) Q (F0 m pc ls rest) q9)
    (kk : ∀ (r : UInt32) (u : S) (t : State) (H1 : Heap) (locs1 : List Loc), t.heap = H1 → s.vm.Alike t.vm → post r u → B u t → H.size ≤ H1.size → (∀ q : Nat, q < H.size → ¬ A1 q → H1[q]? = H[q]?) → va_S A0 H0 H1 locs1 → W p l e R s m args below meth c H1 locs1 (cells + mc) (slots + ms) Q (F0 m (pc + 5) ls (.float r :: rest))) : W p l e R s m args below meth c H locs cells slots Q (F0 m pc ls st0) := by
  intro T hT X
  rcases hr T hT X with ⟨v, st₀, t, T', L, h0, X', hL, e1, e2, ⟨⟨r, u, hv, hp, hb⟩, hF⟩, st⟩ | ⟨q, st₀, t, T', L, E, ce, h0, X', hL, e1, e2, ⟨u, hp, hb, hF⟩, hce, hcv, hcl, st⟩
  · cases hv
    obtain ⟨k1, k2, k3⟩ := vx_keep h0 e1 hS hA hf hL hF
    obtain ⟨t2, a1, b1⟩ := kk r u t T'.heap (locs ++ L) e1.symm (by rw [← e2]; exact X'.warmed.alike) hp hb k1 k2 k3 T' rfl X'
    exact ⟨t2, st t2 a1, b1⟩
  · obtain ⟨k1, k2, k3⟩ := vx_keep h0 e1 hS hAX hf hL hF
    obtain ⟨t2, a1, b1⟩ := kx E ce q u t T'.heap (locs ++ L) e1.symm (by rw [← e2]; exact X'.warmed.alike) hp hb k1 k2 k3 (by rw [e1]; exact hce) hcv hcl T' rfl X'
    exact ⟨t2, st.trans a1, b1⟩
theorem vx_callFd {S SX : Type} {post : UInt64 → S → Prop} {px : SX → Prop} {B : S → State → Prop} {BX : String → SX → State → Prop} {AX : Nat → Prop} (hr : vx_Run5 p l e R s m args below meth c H locs cells slots mc ms (F0 m pc ls st0) rest (va_Qd post B A1 a) (vx_X px BX AX) free) (hS : va_S A0 H0 H locs) (hA : ∀ q, q < H.size → A1 q → A0 q) (hf : ∀ q, free q → A0 q) (hAX : ∀ q, q < H.size → AX q → A0 q)
    (kx : ∀ (E : String) (ce : Cell) (q9 : Addr) (u : SX) (t : State) (H1 : Heap) (locs1 : List Loc), t.heap = H1 → s.vm.Alike t.vm → px u → BX E u t → H.size ≤ H1.size → (∀ q : Nat, q < H.size → ¬ AX q → H1[q]? = H[q]?) → va_S A0 H0 H1 locs1 → H1[q9]? = some ce → ce.vm = .none → s.vm.findClass E = some ce.cls → vx_W p l e R s m args below meth c H1 locs1 (cells + mc) (slots + ms) Q (F0 m pc ls rest) q9)
    (kk : ∀ (r : UInt64) (u : S) (t : State) (H1 : Heap) (locs1 : List Loc), t.heap = H1 → s.vm.Alike t.vm → post r u → B u t → H.size ≤ H1.size → (∀ q : Nat, q < H.size → ¬ A1 q → H1[q]? = H[q]?) → va_S A0 H0 H1 locs1 → W p l e R s m args below meth c H1 locs1 (cells + mc) (slots + ms) Q (F0 m (pc + 5) ls (.double r :: rest))) : W p l e R s m args below meth c H locs cells slots Q (F0 m pc ls st0) := by
  intro T hT X
  rcases hr T hT X with ⟨v, st₀, t, T', L, h0, X', hL, e1, e2, ⟨⟨r, u, hv, hp, hb⟩, hF⟩, st⟩ | ⟨q, st₀, t, T', L, E, ce, h0, X', hL, e1, e2, ⟨u, hp, hb, hF⟩, hce, hcv, hcl, st⟩
  · cases hv
    obtain ⟨k1, k2, k3⟩ := vx_keep h0 e1 hS hA hf hL hF
    obtain ⟨t2, a1, b1⟩ := kk r u t T'.heap (locs ++ L) e1.symm (by rw [← e2]; exact X'.warmed.alike) hp hb k1 k2 k3 T' rfl X'
    exact ⟨t2, st t2 a1, b1⟩
  · obtain ⟨k1, k2, k3⟩ := vx_keep h0 e1 hS hAX hf hL hF
    obtain ⟨t2, a1, b1⟩ := kx E ce q u t T'.heap (locs ++ L) e1.symm (by rw [← e2]; exact X'.warmed.alike) hp hb k1 k2 k3 (by rw [e1]; exact hce) hcv hcl T' rfl X'
    exact ⟨t2, st.trans a1, b1⟩
end
/-! ===== END ===== -/
end
section
def RX0 : String := "OnecodeChancery$Article"
def TX0 : u_T := fun k => match k with
  | 0 => ("OnecodeChancery$Article", "number", "I", true)
  | 1 => ("OnecodeChancery$Article", "clause", "LOnecodeChancery$Clause;", false)
  | 2 => ("OnecodeChancery$Article", "state", "I", false)
  | 3 => ("OnecodeChancery$Article", "from", "I", false)
  | 4 => ("OnecodeChancery$Article", "end", "I", false)
  | _ => ("OnecodeChancery$Article", "exceptions", "I", false)
def tyX0 : Nat → FieldType := fun k => match k with
  | 0 => .int
  | 1 => .object "OnecodeChancery$Clause"
  | 2 => .int
  | 3 => .int
  | 4 => .int
  | _ => .int
theorem nmX0 : ∀ a, a < 6 → ∀ b, b < 6 → a ≠ b → (TX0 a).2.1 ≠ (TX0 b).2.1 := by decide +kernel
theorem tyX0_ok : ∀ k, k < 6 → parseFieldDescriptor (TX0 k).2.2.1 = some (tyX0 k) := by decide +kernel
abbrev cX0_init : ByteArray := prog_2_method_1_code
def yX0_init : MethodName := ⟨RX0, "<init>", "(I)V"⟩
abbrev cX0_isInForce : ByteArray := prog_2_method_2_code
def yX0_isInForce : MethodName := ⟨RX0, "isInForce", "(I)Z"⟩
def RX1 : String := "OnecodeChancery$Clause"
def TX1 : u_T := fun k => match k with
  | 0 => ("OnecodeChancery$Clause", "matter", "I", false)
  | 1 => ("OnecodeChancery$Clause", "classes", "I", false)
  | 2 => ("OnecodeChancery$Clause", "wanted", "I", false)
  | 3 => ("OnecodeChancery$Clause", "unwanted", "I", false)
  | 4 => ("OnecodeChancery$Clause", "least", "I", false)
  | 5 => ("OnecodeChancery$Clause", "greatest", "I", false)
  | 6 => ("OnecodeChancery$Clause", "outcome", "I", false)
  | 7 => ("OnecodeChancery$Clause", "exceptionTo", "I", false)
  | 8 => ("OnecodeChancery$Clause", "limits", "I", false)
  | 9 => ("OnecodeChancery$Clause", "limitSigns", "[I", true)
  | _ => ("OnecodeChancery$Clause", "limitNumbers", "[I", true)
def tyX1 : Nat → FieldType := fun k => match k with
  | 0 => .int
  | 1 => .int
  | 2 => .int
  | 3 => .int
  | 4 => .int
  | 5 => .int
  | 6 => .int
  | 7 => .int
  | 8 => .int
  | 9 => .array .int
  | _ => .array .int
theorem nmX1 : ∀ a, a < 11 → ∀ b, b < 11 → a ≠ b → (TX1 a).2.1 ≠ (TX1 b).2.1 := by decide +kernel
theorem tyX1_ok : ∀ k, k < 11 → parseFieldDescriptor (TX1 k).2.2.1 = some (tyX1 k) := by decide +kernel
abbrev cX1_init : ByteArray := prog_3_method_1_code
def yX1_init : MethodName := ⟨RX1, "<init>", "()V"⟩
abbrev cX1_addLimit : ByteArray := prog_3_method_2_code
def yX1_addLimit : MethodName := ⟨RX1, "addLimit", "(II)Z"⟩
abbrev cX1_markOf : ByteArray := prog_3_method_3_code
def yX1_markOf : MethodName := ⟨RX1, "markOf", "(I)I"⟩
abbrev cX1_isFor : ByteArray := prog_3_method_4_code
def yX1_isFor : MethodName := ⟨RX1, "isFor", "(LOnecodeChancery$Dispute;)Z"⟩
abbrev cX1_appendTo : ByteArray := prog_3_method_5_code
def yX1_appendTo : MethodName := ⟨RX1, "appendTo", "(Ljava/lang/StringBuilder;)V"⟩
abbrev cX1_appendFacts : ByteArray := prog_3_method_6_code
def yX1_appendFacts : MethodName := ⟨RX1, "appendFacts", "(Ljava/lang/StringBuilder;CI)V"⟩
def RX2 : String := "OnecodeChancery$Code"
def TX2 : u_T := fun k => match k with
  | 0 => ("OnecodeChancery$Code", "articles", "[LOnecodeChancery$Article;", true)
  | 1 => ("OnecodeChancery$Code", "customs", "LOnecodeChancery$Customs;", true)
  | 2 => ("OnecodeChancery$Code", "count", "I", false)
  | 3 => ("OnecodeChancery$Code", "generals", "I", false)
  | _ => ("OnecodeChancery$Code", "customary", "I", false)
def tyX2 : Nat → FieldType := fun k => match k with
  | 0 => .array (.object "OnecodeChancery$Article")
  | 1 => .object "OnecodeChancery$Customs"
  | 2 => .int
  | 3 => .int
  | _ => .int
theorem nmX2 : ∀ a, a < 5 → ∀ b, b < 5 → a ≠ b → (TX2 a).2.1 ≠ (TX2 b).2.1 := by decide +kernel
theorem tyX2_ok : ∀ k, k < 5 → parseFieldDescriptor (TX2 k).2.2.1 = some (tyX2 k) := by decide +kernel
abbrev cX2_init : ByteArray := prog_4_method_1_code
def yX2_init : MethodName := ⟨RX2, "<init>", "(LOnecodeChancery$Customs;)V"⟩
abbrev cX2_put : ByteArray := prog_4_method_2_code
def yX2_put : MethodName := ⟨RX2, "put", "(ILOnecodeChancery$Clause;)V"⟩
abbrev cX2_sortOut : ByteArray := prog_4_method_3_code
def yX2_sortOut : MethodName := ⟨RX2, "sortOut", "()V"⟩
abbrev cX2_countOf : ByteArray := prog_4_method_4_code
def yX2_countOf : MethodName := ⟨RX2, "countOf", "(I)I"⟩
abbrev cX2_inForce : ByteArray := prog_4_method_5_code
def yX2_inForce : MethodName := ⟨RX2, "inForce", "(I)I"⟩
abbrev cX2_told : ByteArray := prog_4_method_6_code
def yX2_told : MethodName := ⟨RX2, "told", "(ILOnecodeChancery$Dispute;I)I"⟩
abbrev cX2_toldBy : ByteArray := prog_4_method_7_code
def yX2_toldBy : MethodName := ⟨RX2, "toldBy", "(IILOnecodeChancery$Dispute;I)I"⟩
abbrev cX2_applying : ByteArray := prog_4_method_8_code
def yX2_applying : MethodName := ⟨RX2, "applying", "(ILOnecodeChancery$Dispute;)I"⟩
abbrev cX2_toldByAll : ByteArray := prog_4_method_9_code
def yX2_toldByAll : MethodName := ⟨RX2, "toldByAll", "(IIIIII)I"⟩
abbrev cX2_toldByOne : ByteArray := prog_4_method_10_code
def yX2_toldByOne : MethodName := ⟨RX2, "toldByOne", "(IIIIII)I"⟩
def RX3 : String := "OnecodeChancery$Customs"
def TX3 : u_T := fun k => match k with
  | 0 => ("OnecodeChancery$Customs", "rules", "[LOnecodeChancery$Rule;", true)
  | 1 => ("OnecodeChancery$Customs", "ties", "[I", true)
  | _ => ("OnecodeChancery$Customs", "count", "I", false)
def tyX3 : Nat → FieldType := fun k => match k with
  | 0 => .array (.object "OnecodeChancery$Rule")
  | 1 => .array .int
  | _ => .int
theorem nmX3 : ∀ a, a < 3 → ∀ b, b < 3 → a ≠ b → (TX3 a).2.1 ≠ (TX3 b).2.1 := by decide +kernel
theorem tyX3_ok : ∀ k, k < 3 → parseFieldDescriptor (TX3 k).2.2.1 = some (tyX3 k) := by decide +kernel
abbrev cX3_init : ByteArray := prog_5_method_1_code
def yX3_init : MethodName := ⟨RX3, "<init>", "()V"⟩
abbrev cX3_ofParish : ByteArray := prog_5_method_2_code
def yX3_ofParish : MethodName := ⟨RX3, "ofParish", "(ILOnecodeChancery$Dispute;I)I"⟩
abbrev cX3_byTie : ByteArray := prog_5_method_3_code
def yX3_byTie : MethodName := ⟨RX3, "byTie", "(LOnecodeChancery$Dispute;I)I"⟩
abbrev cX3_milder : ByteArray := prog_5_method_4_code
def yX3_milder : MethodName := ⟨RX3, "milder", "(II)I"⟩
def RX4 : String := "OnecodeChancery$Dispute"
def TX4 : u_T := fun k => match k with
  | 0 => ("OnecodeChancery$Dispute", "plaintiff", "I", false)
  | 1 => ("OnecodeChancery$Dispute", "defendant", "I", false)
  | 2 => ("OnecodeChancery$Dispute", "rank", "I", false)
  | 3 => ("OnecodeChancery$Dispute", "matter", "I", false)
  | 4 => ("OnecodeChancery$Dispute", "facts", "I", false)
  | 5 => ("OnecodeChancery$Dispute", "amount", "I", false)
  | 6 => ("OnecodeChancery$Dispute", "day", "I", false)
  | 7 => ("OnecodeChancery$Dispute", "judge", "I", false)
  | _ => ("OnecodeChancery$Dispute", "verdict", "I", false)
def tyX4 : Nat → FieldType := fun k => match k with
  | 0 => .int
  | 1 => .int
  | 2 => .int
  | 3 => .int
  | 4 => .int
  | 5 => .int
  | 6 => .int
  | 7 => .int
  | _ => .int
theorem nmX4 : ∀ a, a < 9 → ∀ b, b < 9 → a ≠ b → (TX4 a).2.1 ≠ (TX4 b).2.1 := by decide +kernel
theorem tyX4_ok : ∀ k, k < 9 → parseFieldDescriptor (TX4 k).2.2.1 = some (tyX4 k) := by decide +kernel
abbrev cX4_init : ByteArray := prog_6_method_1_code
def yX4_init : MethodName := ⟨RX4, "<init>", "()V"⟩
abbrev cX4_worth : ByteArray := prog_6_method_2_code
def yX4_worth : MethodName := ⟨RX4, "worth", "(I)I"⟩
abbrev cX4_isAlike : ByteArray := prog_6_method_3_code
def yX4_isAlike : MethodName := ⟨RX4, "isAlike", "(LOnecodeChancery$Dispute;)Z"⟩
def RX5 : String := "OnecodeChancery$Draft"
def TX5 : u_T := fun k => match k with
  | 0 => ("OnecodeChancery$Draft", "signs", "[I", true)
  | 1 => ("OnecodeChancery$Draft", "length", "I", false)
  | _ => ("OnecodeChancery$Draft", "place", "I", false)
def tyX5 : Nat → FieldType := fun k => match k with
  | 0 => .array .int
  | 1 => .int
  | _ => .int
theorem nmX5 : ∀ a, a < 3 → ∀ b, b < 3 → a ≠ b → (TX5 a).2.1 ≠ (TX5 b).2.1 := by decide +kernel
theorem tyX5_ok : ∀ k, k < 3 → parseFieldDescriptor (TX5 k).2.2.1 = some (tyX5 k) := by decide +kernel
abbrev cX5_init : ByteArray := prog_7_method_1_code
def yX5_init : MethodName := ⟨RX5, "<init>", "()V"⟩
abbrev cX5_readInto : ByteArray := prog_7_method_2_code
def yX5_readInto : MethodName := ⟨RX5, "readInto", "(LOnecodeChancery$Clause;I)Z"⟩
abbrev cX5_takeMatter : ByteArray := prog_7_method_3_code
def yX5_takeMatter : MethodName := ⟨RX5, "takeMatter", "(LOnecodeChancery$Clause;)Z"⟩
abbrev cX5_takeClasses : ByteArray := prog_7_method_4_code
def yX5_takeClasses : MethodName := ⟨RX5, "takeClasses", "(LOnecodeChancery$Clause;)Z"⟩
abbrev cX5_takeConditions : ByteArray := prog_7_method_5_code
def yX5_takeConditions : MethodName := ⟨RX5, "takeConditions", "(LOnecodeChancery$Clause;)Z"⟩
abbrev cX5_takeCondition : ByteArray := prog_7_method_6_code
def yX5_takeCondition : MethodName := ⟨RX5, "takeCondition", "(LOnecodeChancery$Clause;)Z"⟩
abbrev cX5_takeOutcome : ByteArray := prog_7_method_7_code
def yX5_takeOutcome : MethodName := ⟨RX5, "takeOutcome", "(LOnecodeChancery$Clause;I)Z"⟩
abbrev cX5_takeException : ByteArray := prog_7_method_8_code
def yX5_takeException : MethodName := ⟨RX5, "takeException", "(LOnecodeChancery$Clause;I)Z"⟩
abbrev cX5_nextSign : ByteArray := prog_7_method_9_code
def yX5_nextSign : MethodName := ⟨RX5, "nextSign", "()I"⟩
abbrev cX5_takeSign : ByteArray := prog_7_method_10_code
def yX5_takeSign : MethodName := ⟨RX5, "takeSign", "(I)Z"⟩
abbrev cX5_takeDigit : ByteArray := prog_7_method_11_code
def yX5_takeDigit : MethodName := ⟨RX5, "takeDigit", "(I)I"⟩
abbrev cX5_takeNumber : ByteArray := prog_7_method_12_code
def yX5_takeNumber : MethodName := ⟨RX5, "takeNumber", "(I)I"⟩
def RX6 : String := "OnecodeChancery$Faction"
def TX6 : u_T := fun k => match k with
  | 0 => ("OnecodeChancery$Faction", "moods", "[I", true)
  | 1 => ("OnecodeChancery$Faction", "seats", "[I", true)
  | 2 => ("OnecodeChancery$Faction", "taste", "I", false)
  | _ => ("OnecodeChancery$Faction", "pledged", "I", false)
def tyX6 : Nat → FieldType := fun k => match k with
  | 0 => .array .int
  | 1 => .array .int
  | 2 => .int
  | _ => .int
theorem nmX6 : ∀ a, a < 4 → ∀ b, b < 4 → a ≠ b → (TX6 a).2.1 ≠ (TX6 b).2.1 := by decide +kernel
theorem tyX6_ok : ∀ k, k < 4 → parseFieldDescriptor (TX6 k).2.2.1 = some (tyX6 k) := by decide +kernel
abbrev cX6_init : ByteArray := prog_8_method_1_code
def yX6_init : MethodName := ⟨RX6, "<init>", "()V"⟩
abbrev cX6_likes : ByteArray := prog_8_method_2_code
def yX6_likes : MethodName := ⟨RX6, "likes", "(LOnecodeChancery$Clause;)I"⟩
abbrev cX6_stance : ByteArray := prog_8_method_3_code
def yX6_stance : MethodName := ⟨RX6, "stance", "(LOnecodeChancery$Article;Z)I"⟩
def RX7 : String := "OnecodeChancery$Grid"
def TX7 : u_T := fun k => match k with
  | 0 => ("OnecodeChancery$Grid", "probe", "LOnecodeChancery$Dispute;", true)
  | 1 => ("OnecodeChancery$Grid", "counts", "[I", true)
  | 2 => ("OnecodeChancery$Grid", "marks", "[I", true)
  | 3 => ("OnecodeChancery$Grid", "markCount", "I", false)
  | _ => ("OnecodeChancery$Grid", "mark", "I", false)
def tyX7 : Nat → FieldType := fun k => match k with
  | 0 => .object "OnecodeChancery$Dispute"
  | 1 => .array .int
  | 2 => .array .int
  | 3 => .int
  | _ => .int
theorem nmX7 : ∀ a, a < 5 → ∀ b, b < 5 → a ≠ b → (TX7 a).2.1 ≠ (TX7 b).2.1 := by decide +kernel
theorem tyX7_ok : ∀ k, k < 5 → parseFieldDescriptor (TX7 k).2.2.1 = some (tyX7 k) := by decide +kernel
abbrev cX7_init : ByteArray := prog_9_method_1_code
def yX7_init : MethodName := ⟨RX7, "<init>", "()V"⟩
abbrev cX7_lay : ByteArray := prog_9_method_2_code
def yX7_lay : MethodName := ⟨RX7, "lay", "(IILOnecodeChancery$Code;)V"⟩
abbrev cX7_addMarksOf : ByteArray := prog_9_method_3_code
def yX7_addMarksOf : MethodName := ⟨RX7, "addMarksOf", "(LOnecodeChancery$Clause;)V"⟩
abbrev cX7_addMark : ByteArray := prog_9_method_4_code
def yX7_addMark : MethodName := ⟨RX7, "addMark", "(I)V"⟩
abbrev cX7_size : ByteArray := prog_9_method_5_code
def yX7_size : MethodName := ⟨RX7, "size", "()I"⟩
abbrev cX7_step : ByteArray := prog_9_method_6_code
def yX7_step : MethodName := ⟨RX7, "step", "()V"⟩
abbrev cX7_count : ByteArray := prog_9_method_7_code
def yX7_count : MethodName := ⟨RX7, "count", "(IILOnecodeChancery$Code;I)V"⟩
abbrev cX7_add : ByteArray := prog_9_method_8_code
def yX7_add : MethodName := ⟨RX7, "add", "(II)V"⟩
def RX8 : String := "OnecodeChancery$Houses"
def TX8 : u_T := fun k => match k with
  | _ => ("OnecodeChancery$Houses", "factions", "[LOnecodeChancery$Faction;", true)
def tyX8 : Nat → FieldType := fun k => match k with
  | _ => .array (.object "OnecodeChancery$Faction")
theorem nmX8 : ∀ a, a < 1 → ∀ b, b < 1 → a ≠ b → (TX8 a).2.1 ≠ (TX8 b).2.1 := by decide +kernel
theorem tyX8_ok : ∀ k, k < 1 → parseFieldDescriptor (TX8 k).2.2.1 = some (tyX8 k) := by decide +kernel
abbrev cX8_init : ByteArray := prog_10_method_1_code
def yX8_init : MethodName := ⟨RX8, "<init>", "()V"⟩
abbrev cX8_allSeats : ByteArray := prog_10_method_2_code
def yX8_allSeats : MethodName := ⟨RX8, "allSeats", "(I)I"⟩
abbrev cX8_pledgedFor : ByteArray := prog_10_method_3_code
def yX8_pledgedFor : MethodName := ⟨RX8, "pledgedFor", "(I)I"⟩
abbrev cX8_balance : ByteArray := prog_10_method_4_code
def yX8_balance : MethodName := ⟨RX8, "balance", "(ILOnecodeChancery$Article;Z)I"⟩
abbrev cX8_inFavour : ByteArray := prog_10_method_5_code
def yX8_inFavour : MethodName := ⟨RX8, "inFavour", "(LOnecodeChancery$Article;Z)I"⟩
abbrev cX8_release : ByteArray := prog_10_method_6_code
def yX8_release : MethodName := ⟨RX8, "release", "(LOnecodeChancery$Article;)V"⟩
def RX9 : String := "OnecodeChancery$Rule"
def TX9 : u_T := fun k => match k with
  | 0 => ("OnecodeChancery$Rule", "parish", "I", false)
  | 1 => ("OnecodeChancery$Rule", "matter", "I", false)
  | 2 => ("OnecodeChancery$Rule", "classes", "I", false)
  | 3 => ("OnecodeChancery$Rule", "needs", "I", false)
  | 4 => ("OnecodeChancery$Rule", "bars", "I", false)
  | 5 => ("OnecodeChancery$Rule", "share", "I", false)
  | 6 => ("OnecodeChancery$Rule", "proof", "I", false)
  | 7 => ("OnecodeChancery$Rule", "least", "I", false)
  | 8 => ("OnecodeChancery$Rule", "most", "I", false)
  | 9 => ("OnecodeChancery$Rule", "sworn", "I", false)
  | _ => ("OnecodeChancery$Rule", "strength", "I", false)
def tyX9 : Nat → FieldType := fun k => match k with
  | 0 => .int
  | 1 => .int
  | 2 => .int
  | 3 => .int
  | 4 => .int
  | 5 => .int
  | 6 => .int
  | 7 => .int
  | 8 => .int
  | 9 => .int
  | _ => .int
theorem nmX9 : ∀ a, a < 11 → ∀ b, b < 11 → a ≠ b → (TX9 a).2.1 ≠ (TX9 b).2.1 := by decide +kernel
theorem tyX9_ok : ∀ k, k < 11 → parseFieldDescriptor (TX9 k).2.2.1 = some (tyX9 k) := by decide +kernel
abbrev cX9_init : ByteArray := prog_11_method_1_code
def yX9_init : MethodName := ⟨RX9, "<init>", "()V"⟩
abbrev cX9_isFor : ByteArray := prog_11_method_2_code
def yX9_isFor : MethodName := ⟨RX9, "isFor", "(LOnecodeChancery$Dispute;I)Z"⟩
def RX10 : String := "OnecodeChancery"
def TX10 : u_T := fun k => match k with
  | 0 => ("OnecodeChancery", "day", "I", false)
  | 1 => ("OnecodeChancery", "refused", "I", false)
  | 2 => ("OnecodeChancery", "reversed", "I", false)
  | 3 => ("OnecodeChancery", "caseCount", "I", false)
  | 4 => ("OnecodeChancery", "peopleOf", "[I", true)
  | 5 => ("OnecodeChancery", "wordings", "[[I", true)
  | 6 => ("OnecodeChancery", "ways", "[I", true)
  | 7 => ("OnecodeChancery", "heldBy", "[I", true)
  | 8 => ("OnecodeChancery", "cases", "[LOnecodeChancery$Dispute;", true)
  | 9 => ("OnecodeChancery", "customs", "LOnecodeChancery$Customs;", true)
  | 10 => ("OnecodeChancery", "code", "LOnecodeChancery$Code;", true)
  | 11 => ("OnecodeChancery", "houses", "LOnecodeChancery$Houses;", true)
  | 12 => ("OnecodeChancery", "draft", "LOnecodeChancery$Draft;", true)
  | _ => ("OnecodeChancery", "table", "LOnecodeChancery$Grid;", true)
def tyX10 : Nat → FieldType := fun k => match k with
  | 0 => .int
  | 1 => .int
  | 2 => .int
  | 3 => .int
  | 4 => .array .int
  | 5 => .array (.array .int)
  | 6 => .array .int
  | 7 => .array .int
  | 8 => .array (.object "OnecodeChancery$Dispute")
  | 9 => .object "OnecodeChancery$Customs"
  | 10 => .object "OnecodeChancery$Code"
  | 11 => .object "OnecodeChancery$Houses"
  | 12 => .object "OnecodeChancery$Draft"
  | _ => .object "OnecodeChancery$Grid"
theorem nmX10 : ∀ a, a < 14 → ∀ b, b < 14 → a ≠ b → (TX10 a).2.1 ≠ (TX10 b).2.1 := by decide +kernel
theorem tyX10_ok : ∀ k, k < 14 → parseFieldDescriptor (TX10 k).2.2.1 = some (tyX10 k) := by decide +kernel
abbrev cX10_init : ByteArray := prog_1_method_1_code
def yX10_init : MethodName := ⟨RX10, "<init>", "()V"⟩
abbrev cX10_people : ByteArray := prog_1_method_2_code
def yX10_people : MethodName := ⟨RX10, "people", "(II)I"⟩
abbrev cX10_swap : ByteArray := prog_1_method_3_code
def yX10_swap : MethodName := ⟨RX10, "swap", "(III)I"⟩
abbrev cX10_tie : ByteArray := prog_1_method_4_code
def yX10_tie : MethodName := ⟨RX10, "tie", "(II)I"⟩
abbrev cX10_rule : ByteArray := prog_1_method_5_code
def yX10_rule : MethodName := ⟨RX10, "rule", "(IIIIIII)I"⟩
abbrev cX10_limit : ByteArray := prog_1_method_6_code
def yX10_limit : MethodName := ⟨RX10, "limit", "(III)I"⟩
abbrev cX10_dispute : ByteArray := prog_1_method_7_code
def yX10_dispute : MethodName := ⟨RX10, "dispute", "(IIIIIII)I"⟩
abbrev cX10_feed : ByteArray := prog_1_method_8_code
def yX10_feed : MethodName := ⟨RX10, "feed", "(I)I"⟩
abbrev cX10_write : ByteArray := prog_1_method_9_code
def yX10_write : MethodName := ⟨RX10, "write", "()I"⟩
abbrev cX10_amend : ByteArray := prog_1_method_10_code
def yX10_amend : MethodName := ⟨RX10, "amend", "(I)Z"⟩
abbrev cX10_seats : ByteArray := prog_1_method_11_code
def yX10_seats : MethodName := ⟨RX10, "seats", "(III)I"⟩
abbrev cX10_mood : ByteArray := prog_1_method_12_code
def yX10_mood : MethodName := ⟨RX10, "mood", "(III)I"⟩
abbrev cX10_taste : ByteArray := prog_1_method_13_code
def yX10_taste : MethodName := ⟨RX10, "taste", "(II)I"⟩
abbrev cX10_pledge : ByteArray := prog_1_method_14_code
def yX10_pledge : MethodName := ⟨RX10, "pledge", "(II)I"⟩
abbrev cX10_vote : ByteArray := prog_1_method_15_code
def yX10_vote : MethodName := ⟨RX10, "vote", "(I)I"⟩
abbrev cX10_repeal : ByteArray := prog_1_method_16_code
def yX10_repeal : MethodName := ⟨RX10, "repeal", "(I)I"⟩
abbrev cX10_way : ByteArray := prog_1_method_17_code
def yX10_way : MethodName := ⟨RX10, "way", "(II)I"⟩
abbrev cX10_judge : ByteArray := prog_1_method_18_code
def yX10_judge : MethodName := ⟨RX10, "judge", "(II)I"⟩
abbrev cX10_appeal : ByteArray := prog_1_method_19_code
def yX10_appeal : MethodName := ⟨RX10, "appeal", "(I)I"⟩
abbrev cX10_pass : ByteArray := prog_1_method_20_code
def yX10_pass : MethodName := ⟨RX10, "pass", "(I)I"⟩
abbrev cX10_call : ByteArray := prog_1_method_21_code
def yX10_call : MethodName := ⟨RX10, "call", "()I"⟩
abbrev cX10_means : ByteArray := prog_1_method_22_code
def yX10_means : MethodName := ⟨RX10, "means", "(II)I"⟩
abbrev cX10_ofRule : ByteArray := prog_1_method_23_code
def yX10_ofRule : MethodName := ⟨RX10, "ofRule", "(II)I"⟩
abbrev cX10_ofCase : ByteArray := prog_1_method_24_code
def yX10_ofCase : MethodName := ⟨RX10, "ofCase", "(II)I"⟩
abbrev cX10_tells : ByteArray := prog_1_method_25_code
def yX10_tells : MethodName := ⟨RX10, "tells", "(II)I"⟩
abbrev cX10_ofArticle : ByteArray := prog_1_method_26_code
def yX10_ofArticle : MethodName := ⟨RX10, "ofArticle", "(II)I"⟩
abbrev cX10_liking : ByteArray := prog_1_method_27_code
def yX10_liking : MethodName := ⟨RX10, "liking", "(II)I"⟩
abbrev cX10_ofFaction : ByteArray := prog_1_method_28_code
def yX10_ofFaction : MethodName := ⟨RX10, "ofFaction", "(II)I"⟩
abbrev cX10_grid : ByteArray := prog_1_method_29_code
def yX10_grid : MethodName := ⟨RX10, "grid", "(III)I"⟩
abbrev cX10_isDead : ByteArray := prog_1_method_30_code
def yX10_isDead : MethodName := ⟨RX10, "isDead", "(II)Z"⟩
abbrev cX10_gain : ByteArray := prog_1_method_31_code
def yX10_gain : MethodName := ⟨RX10, "gain", "(I)I"⟩
abbrev cX10_held : ByteArray := prog_1_method_32_code
def yX10_held : MethodName := ⟨RX10, "held", "(IIIII)I"⟩
abbrev cX10_uniformity : ByteArray := prog_1_method_33_code
def yX10_uniformity : MethodName := ⟨RX10, "uniformity", "()D"⟩
abbrev cX10_realm : ByteArray := prog_1_method_34_code
def yX10_realm : MethodName := ⟨RX10, "realm", "(I)I"⟩
abbrev cX10_text : ByteArray := prog_1_method_35_code
def yX10_text : MethodName := ⟨RX10, "text", "(I)Ljava/lang/String;"⟩
abbrev cX10_wouldVote : ByteArray := prog_1_method_36_code
def yX10_wouldVote : MethodName := ⟨RX10, "wouldVote", "(IIZ)I"⟩
abbrev cX10_wouldJudge : ByteArray := prog_1_method_37_code
def yX10_wouldJudge : MethodName := ⟨RX10, "wouldJudge", "(II)I"⟩
abbrev cX10_without : ByteArray := prog_1_method_38_code
def yX10_without : MethodName := ⟨RX10, "without", "(II)I"⟩
abbrev cX10_isSound : ByteArray := prog_1_method_39_code
def yX10_isSound : MethodName := ⟨RX10, "isSound", "()Z"⟩
abbrev cX10_digest : ByteArray := prog_1_method_40_code
def yX10_digest : MethodName := ⟨RX10, "digest", "()J"⟩
abbrev cX10_needNumber : ByteArray := prog_1_method_41_code
def yX10_needNumber : MethodName := ⟨RX10, "needNumber", "(II)V"⟩
abbrev cX10_needValue : ByteArray := prog_1_method_42_code
def yX10_needValue : MethodName := ⟨RX10, "needValue", "(III)V"⟩
abbrev cX10_needState : ByteArray := prog_1_method_43_code
def yX10_needState : MethodName := ⟨RX10, "needState", "(Z)V"⟩
abbrev cX10_realFacts : ByteArray := prog_1_method_44_code
def yX10_realFacts : MethodName := ⟨RX10, "realFacts", "(II)I"⟩
abbrev cX10_takeDraft : ByteArray := prog_1_method_45_code
def yX10_takeDraft : MethodName := ⟨RX10, "takeDraft", "(I)Z"⟩
abbrev cX10_byCode : ByteArray := prog_1_method_46_code
def yX10_byCode : MethodName := ⟨RX10, "byCode", "(LOnecodeChancery$Dispute;I)I"⟩
abbrev cX10_judgedBy : ByteArray := prog_1_method_47_code
def yX10_judgedBy : MethodName := ⟨RX10, "judgedBy", "(ILOnecodeChancery$Dispute;)I"⟩
abbrev cX10_stretched : ByteArray := prog_1_method_48_code
def yX10_stretched : MethodName := ⟨RX10, "stretched", "(I)I"⟩
abbrev cX10_casesOf : ByteArray := prog_1_method_49_code
def yX10_casesOf : MethodName := ⟨RX10, "casesOf", "(LOnecodeChancery$Rule;)I"⟩
abbrev cX10_verdictCount : ByteArray := prog_1_method_50_code
def yX10_verdictCount : MethodName := ⟨RX10, "verdictCount", "()I"⟩
abbrev cX10_againstCustom : ByteArray := prog_1_method_51_code
def yX10_againstCustom : MethodName := ⟨RX10, "againstCustom", "()I"⟩
abbrev cX10_askParishes : ByteArray := prog_1_method_52_code
def yX10_askParishes : MethodName := ⟨RX10, "askParishes", "(IIII)V"⟩
abbrev cX10_mostHeld : ByteArray := prog_1_method_53_code
def yX10_mostHeld : MethodName := ⟨RX10, "mostHeld", "()I"⟩
abbrev cX10_peopleWho : ByteArray := prog_1_method_54_code
def yX10_peopleWho : MethodName := ⟨RX10, "peopleWho", "(I)I"⟩
abbrev cX10_hasSoundWordings : ByteArray := prog_1_method_55_code
def yX10_hasSoundWordings : MethodName := ⟨RX10, "hasSoundWordings", "()Z"⟩
abbrev cX10_hasSoundVerdicts : ByteArray := prog_1_method_56_code
def yX10_hasSoundVerdicts : MethodName := ⟨RX10, "hasSoundVerdicts", "()Z"⟩
abbrev cX10_hasSoundPledges : ByteArray := prog_1_method_57_code
def yX10_hasSoundPledges : MethodName := ⟨RX10, "hasSoundPledges", "()Z"⟩
abbrev cX10_hasSoundArticles : ByteArray := prog_1_method_58_code
def yX10_hasSoundArticles : MethodName := ⟨RX10, "hasSoundArticles", "()Z"⟩
abbrev cX10_withRules : ByteArray := prog_1_method_59_code
def yX10_withRules : MethodName := ⟨RX10, "withRules", "(J)J"⟩
abbrev cX10_withCases : ByteArray := prog_1_method_60_code
def yX10_withCases : MethodName := ⟨RX10, "withCases", "(J)J"⟩
abbrev cX10_withArticles : ByteArray := prog_1_method_61_code
def yX10_withArticles : MethodName := ⟨RX10, "withArticles", "(J)J"⟩
abbrev cX10_withGrids : ByteArray := prog_1_method_62_code
def yX10_withGrids : MethodName := ⟨RX10, "withGrids", "(J)J"⟩
def RX11 : String := "OnecodeChanceryLaw$Out"
def TX11 : u_T := fun k => match k with
  | 0 => ("OnecodeChanceryLaw$Out", "n", "J", false)
  | _ => ("OnecodeChanceryLaw$Out", "s", "Ljava/lang/String;", false)
def tyX11 : Nat → FieldType := fun k => match k with
  | 0 => .long
  | _ => .object "java/lang/String"
theorem nmX11 : ∀ a, a < 2 → ∀ b, b < 2 → a ≠ b → (TX11 a).2.1 ≠ (TX11 b).2.1 := by decide +kernel
theorem tyX11_ok : ∀ k, k < 2 → parseFieldDescriptor (TX11 k).2.2.1 = some (tyX11 k) := by decide +kernel
abbrev cX11_init : ByteArray := prog_13_method_1_code
def yX11_init : MethodName := ⟨RX11, "<init>", "()V"⟩
def RX12 : String := "OnecodeChanceryModel$Article"
def TX12 : u_T := fun k => match k with
  | 0 => ("OnecodeChanceryModel$Article", "matter", "I", false)
  | 1 => ("OnecodeChanceryModel$Article", "classes", "I", false)
  | 2 => ("OnecodeChanceryModel$Article", "with", "I", false)
  | 3 => ("OnecodeChanceryModel$Article", "without", "I", false)
  | 4 => ("OnecodeChanceryModel$Article", "signs", "[I", true)
  | 5 => ("OnecodeChanceryModel$Article", "numbers", "[I", true)
  | 6 => ("OnecodeChanceryModel$Article", "limits", "I", false)
  | 7 => ("OnecodeChanceryModel$Article", "outcome", "I", false)
  | 8 => ("OnecodeChanceryModel$Article", "exceptionTo", "I", false)
  | 9 => ("OnecodeChanceryModel$Article", "state", "I", false)
  | 10 => ("OnecodeChanceryModel$Article", "from", "I", false)
  | _ => ("OnecodeChanceryModel$Article", "end", "I", false)
def tyX12 : Nat → FieldType := fun k => match k with
  | 0 => .int
  | 1 => .int
  | 2 => .int
  | 3 => .int
  | 4 => .array .int
  | 5 => .array .int
  | 6 => .int
  | 7 => .int
  | 8 => .int
  | 9 => .int
  | 10 => .int
  | _ => .int
theorem nmX12 : ∀ a, a < 12 → ∀ b, b < 12 → a ≠ b → (TX12 a).2.1 ≠ (TX12 b).2.1 := by decide +kernel
theorem tyX12_ok : ∀ k, k < 12 → parseFieldDescriptor (TX12 k).2.2.1 = some (tyX12 k) := by decide +kernel
abbrev cX12_init : ByteArray := prog_15_method_1_code
def yX12_init : MethodName := ⟨RX12, "<init>", "()V"⟩
abbrev cX12_applies : ByteArray := prog_15_method_2_code
def yX12_applies : MethodName := ⟨RX12, "applies", "(LOnecodeChanceryModel$Case;)Z"⟩
abbrev cX12_least : ByteArray := prog_15_method_3_code
def yX12_least : MethodName := ⟨RX12, "least", "()I"⟩
abbrev cX12_most : ByteArray := prog_15_method_4_code
def yX12_most : MethodName := ⟨RX12, "most", "()I"⟩
abbrev cX12_isInForce : ByteArray := prog_15_method_5_code
def yX12_isInForce : MethodName := ⟨RX12, "isInForce", "(I)Z"⟩
def RX13 : String := "OnecodeChanceryModel$Case"
def TX13 : u_T := fun k => match k with
  | 0 => ("OnecodeChanceryModel$Case", "plaintiff", "I", false)
  | 1 => ("OnecodeChanceryModel$Case", "defendant", "I", false)
  | 2 => ("OnecodeChanceryModel$Case", "rank", "I", false)
  | 3 => ("OnecodeChanceryModel$Case", "matter", "I", false)
  | 4 => ("OnecodeChanceryModel$Case", "facts", "I", false)
  | 5 => ("OnecodeChanceryModel$Case", "amount", "I", false)
  | 6 => ("OnecodeChanceryModel$Case", "day", "I", false)
  | 7 => ("OnecodeChanceryModel$Case", "judge", "I", false)
  | _ => ("OnecodeChanceryModel$Case", "verdict", "I", false)
def tyX13 : Nat → FieldType := fun k => match k with
  | 0 => .int
  | 1 => .int
  | 2 => .int
  | 3 => .int
  | 4 => .int
  | 5 => .int
  | 6 => .int
  | 7 => .int
  | _ => .int
theorem nmX13 : ∀ a, a < 9 → ∀ b, b < 9 → a ≠ b → (TX13 a).2.1 ≠ (TX13 b).2.1 := by decide +kernel
theorem tyX13_ok : ∀ k, k < 9 → parseFieldDescriptor (TX13 k).2.2.1 = some (tyX13 k) := by decide +kernel
abbrev cX13_init : ByteArray := prog_16_method_1_code
def yX13_init : MethodName := ⟨RX13, "<init>", "(IIIIIII)V"⟩
abbrev cX13_on : ByteArray := prog_16_method_2_code
def yX13_on : MethodName := ⟨RX13, "on", "(I)LOnecodeChanceryModel$Case;"⟩
def RX14 : String := "OnecodeChanceryModel$Rule"
def TX14 : u_T := fun k => match k with
  | 0 => ("OnecodeChanceryModel$Rule", "parish", "I", true)
  | 1 => ("OnecodeChanceryModel$Rule", "matter", "I", true)
  | 2 => ("OnecodeChanceryModel$Rule", "classes", "I", true)
  | 3 => ("OnecodeChanceryModel$Rule", "needs", "I", true)
  | 4 => ("OnecodeChanceryModel$Rule", "bars", "I", true)
  | 5 => ("OnecodeChanceryModel$Rule", "share", "I", true)
  | 6 => ("OnecodeChanceryModel$Rule", "proof", "I", true)
  | 7 => ("OnecodeChanceryModel$Rule", "sworn", "I", true)
  | 8 => ("OnecodeChanceryModel$Rule", "least", "I", false)
  | _ => ("OnecodeChanceryModel$Rule", "most", "I", false)
def tyX14 : Nat → FieldType := fun k => match k with
  | 0 => .int
  | 1 => .int
  | 2 => .int
  | 3 => .int
  | 4 => .int
  | 5 => .int
  | 6 => .int
  | 7 => .int
  | 8 => .int
  | _ => .int
theorem nmX14 : ∀ a, a < 10 → ∀ b, b < 10 → a ≠ b → (TX14 a).2.1 ≠ (TX14 b).2.1 := by decide +kernel
theorem tyX14_ok : ∀ k, k < 10 → parseFieldDescriptor (TX14 k).2.2.1 = some (tyX14 k) := by decide +kernel
abbrev cX14_init : ByteArray := prog_17_method_1_code
def yX14_init : MethodName := ⟨RX14, "<init>", "(IIIIIIII)V"⟩
abbrev cX14_strength : ByteArray := prog_17_method_2_code
def yX14_strength : MethodName := ⟨RX14, "strength", "()I"⟩
abbrev cX14_holds : ByteArray := prog_17_method_3_code
def yX14_holds : MethodName := ⟨RX14, "holds", "(LOnecodeChanceryModel$Case;)Z"⟩
def RX15 : String := "OnecodeChanceryModel"
def TX15 : u_T := fun k => match k with
  | 0 => ("OnecodeChanceryModel", "thrown", "I", false)
  | 1 => ("OnecodeChanceryModel", "day", "I", false)
  | 2 => ("OnecodeChanceryModel", "reversed", "I", false)
  | 3 => ("OnecodeChanceryModel", "refused", "I", false)
  | 4 => ("OnecodeChanceryModel", "people", "[I", true)
  | 5 => ("OnecodeChanceryModel", "wording", "[[I", true)
  | 6 => ("OnecodeChanceryModel", "ties", "[I", true)
  | 7 => ("OnecodeChanceryModel", "rules", "Ljava/util/List;", true)
  | 8 => ("OnecodeChanceryModel", "cases", "Ljava/util/List;", true)
  | 9 => ("OnecodeChanceryModel", "articles", "Ljava/util/List;", true)
  | 10 => ("OnecodeChanceryModel", "fed", "Ljava/lang/String;", false)
  | 11 => ("OnecodeChanceryModel", "seats", "[[I", true)
  | 12 => ("OnecodeChanceryModel", "moods", "[[I", true)
  | 13 => ("OnecodeChanceryModel", "tastes", "[I", true)
  | 14 => ("OnecodeChanceryModel", "pledges", "[I", true)
  | 15 => ("OnecodeChanceryModel", "ways", "[I", true)
  | 16 => ("OnecodeChanceryModel", "at", "I", false)
  | _ => ("OnecodeChanceryModel", "isBad", "Z", false)
def tyX15 : Nat → FieldType := fun k => match k with
  | 0 => .int
  | 1 => .int
  | 2 => .int
  | 3 => .int
  | 4 => .array .int
  | 5 => .array (.array .int)
  | 6 => .array .int
  | 7 => .object "java/util/List"
  | 8 => .object "java/util/List"
  | 9 => .object "java/util/List"
  | 10 => .object "java/lang/String"
  | 11 => .array (.array .int)
  | 12 => .array (.array .int)
  | 13 => .array .int
  | 14 => .array .int
  | 15 => .array .int
  | 16 => .int
  | _ => .boolean
theorem nmX15 : ∀ a, a < 18 → ∀ b, b < 18 → a ≠ b → (TX15 a).2.1 ≠ (TX15 b).2.1 := by decide +kernel
theorem tyX15_ok : ∀ k, k < 18 → parseFieldDescriptor (TX15 k).2.2.1 = some (tyX15 k) := by decide +kernel
abbrev cX15_init : ByteArray := prog_14_method_1_code
def yX15_init : MethodName := ⟨RX15, "<init>", "()V"⟩
abbrev cX15_no : ByteArray := prog_14_method_3_code
def yX15_no : MethodName := ⟨RX15, "no", "(I)I"⟩
abbrev cX15_in : ByteArray := prog_14_method_4_code
def yX15_in : MethodName := ⟨RX15, "in", "(III)Z"⟩
abbrev cX15_has : ByteArray := prog_14_method_5_code
def yX15_has : MethodName := ⟨RX15, "has", "(II)Z"⟩
abbrev cX15_size : ByteArray := prog_14_method_6_code
def yX15_size : MethodName := ⟨RX15, "size", "(I)I"⟩
abbrev cX15_custom : ByteArray := prog_14_method_7_code
def yX15_custom : MethodName := ⟨RX15, "custom", "(ILOnecodeChanceryModel$Case;)I"⟩
abbrev cX15_byTie : ByteArray := prog_14_method_8_code
def yX15_byTie : MethodName := ⟨RX15, "byTie", "(LOnecodeChanceryModel$Case;)I"⟩
abbrev cX15_and : ByteArray := prog_14_method_9_code
def yX15_and : MethodName := ⟨RX15, "and", "(II)I"⟩
abbrev cX15_isInForce : ByteArray := prog_14_method_10_code
def yX15_isInForce : MethodName := ⟨RX15, "isInForce", "(III)Z"⟩
abbrev cX15_told : ByteArray := prog_14_method_11_code
def yX15_told : MethodName := ⟨RX15, "told", "(ILOnecodeChanceryModel$Case;III)I"⟩
abbrev cX15_code : ByteArray := prog_14_method_12_code
def yX15_code : MethodName := ⟨RX15, "code", "(LOnecodeChanceryModel$Case;II)I"⟩
abbrev cX15_code_ : ByteArray := prog_14_method_13_code
def yX15_code_ : MethodName := ⟨RX15, "code", "(LOnecodeChanceryModel$Case;)I"⟩
abbrev cX15_sign : ByteArray := prog_14_method_14_code
def yX15_sign : MethodName := ⟨RX15, "sign", "()C"⟩
abbrev cX15_takes : ByteArray := prog_14_method_15_code
def yX15_takes : MethodName := ⟨RX15, "takes", "(C)Z"⟩
abbrev cX15_isDigit : ByteArray := prog_14_method_16_code
def yX15_isDigit : MethodName := ⟨RX15, "isDigit", "(C)Z"⟩
abbrev cX15_digit : ByteArray := prog_14_method_17_code
def yX15_digit : MethodName := ⟨RX15, "digit", "(I)I"⟩
abbrev cX15_number : ByteArray := prog_14_method_18_code
def yX15_number : MethodName := ⟨RX15, "number", "()I"⟩
abbrev cX15_named : ByteArray := prog_14_method_19_code
def yX15_named : MethodName := ⟨RX15, "named", "(I)I"⟩
abbrev cX15_read : ByteArray := prog_14_method_20_code
def yX15_read : MethodName := ⟨RX15, "read", "(I)LOnecodeChanceryModel$Article;"⟩
abbrev cX15_condition : ByteArray := prog_14_method_21_code
def yX15_condition : MethodName := ⟨RX15, "condition", "(LOnecodeChanceryModel$Article;)V"⟩
abbrev cX15_people : ByteArray := prog_14_method_22_code
def yX15_people : MethodName := ⟨RX15, "people", "(II)I"⟩
abbrev cX15_swap : ByteArray := prog_14_method_23_code
def yX15_swap : MethodName := ⟨RX15, "swap", "(III)I"⟩
abbrev cX15_tie : ByteArray := prog_14_method_24_code
def yX15_tie : MethodName := ⟨RX15, "tie", "(II)I"⟩
abbrev cX15_rule : ByteArray := prog_14_method_25_code
def yX15_rule : MethodName := ⟨RX15, "rule", "(IIIIIII)I"⟩
abbrev cX15_isRule : ByteArray := prog_14_method_26_code
def yX15_isRule : MethodName := ⟨RX15, "isRule", "(I)Z"⟩
abbrev cX15_limit : ByteArray := prog_14_method_27_code
def yX15_limit : MethodName := ⟨RX15, "limit", "(III)I"⟩
abbrev cX15_dispute : ByteArray := prog_14_method_28_code
def yX15_dispute : MethodName := ⟨RX15, "dispute", "(IIIIIII)I"⟩
abbrev cX15_isCase : ByteArray := prog_14_method_29_code
def yX15_isCase : MethodName := ⟨RX15, "isCase", "(I)Z"⟩
abbrev cX15_isArticle : ByteArray := prog_14_method_30_code
def yX15_isArticle : MethodName := ⟨RX15, "isArticle", "(I)Z"⟩
abbrev cX15_isBill : ByteArray := prog_14_method_31_code
def yX15_isBill : MethodName := ⟨RX15, "isBill", "(I)Z"⟩
abbrev cX15_feed : ByteArray := prog_14_method_32_code
def yX15_feed : MethodName := ⟨RX15, "feed", "(I)I"⟩
abbrev cX15_write : ByteArray := prog_14_method_33_code
def yX15_write : MethodName := ⟨RX15, "write", "()I"⟩
abbrev cX15_amend : ByteArray := prog_14_method_34_code
def yX15_amend : MethodName := ⟨RX15, "amend", "(I)Z"⟩
abbrev cX15_seats : ByteArray := prog_14_method_35_code
def yX15_seats : MethodName := ⟨RX15, "seats", "(III)I"⟩
abbrev cX15_mood : ByteArray := prog_14_method_36_code
def yX15_mood : MethodName := ⟨RX15, "mood", "(III)I"⟩
abbrev cX15_taste : ByteArray := prog_14_method_37_code
def yX15_taste : MethodName := ⟨RX15, "taste", "(II)I"⟩
abbrev cX15_pledge : ByteArray := prog_14_method_38_code
def yX15_pledge : MethodName := ⟨RX15, "pledge", "(II)I"⟩
abbrev cX15_likingNow : ByteArray := prog_14_method_39_code
def yX15_likingNow : MethodName := ⟨RX15, "likingNow", "(II)I"⟩
abbrev cX15_margin : ByteArray := prog_14_method_40_code
def yX15_margin : MethodName := ⟨RX15, "margin", "(IIZ)I"⟩
abbrev cX15_housesFor : ByteArray := prog_14_method_41_code
def yX15_housesFor : MethodName := ⟨RX15, "housesFor", "(IZ)I"⟩
abbrev cX15_vote : ByteArray := prog_14_method_42_code
def yX15_vote : MethodName := ⟨RX15, "vote", "(I)I"⟩
abbrev cX15_repeal : ByteArray := prog_14_method_43_code
def yX15_repeal : MethodName := ⟨RX15, "repeal", "(I)I"⟩
abbrev cX15_way : ByteArray := prog_14_method_44_code
def yX15_way : MethodName := ⟨RX15, "way", "(II)I"⟩
abbrev cX15_judged : ByteArray := prog_14_method_45_code
def yX15_judged : MethodName := ⟨RX15, "judged", "(LOnecodeChanceryModel$Case;I)I"⟩
abbrev cX15_judge : ByteArray := prog_14_method_46_code
def yX15_judge : MethodName := ⟨RX15, "judge", "(II)I"⟩
abbrev cX15_appeal : ByteArray := prog_14_method_47_code
def yX15_appeal : MethodName := ⟨RX15, "appeal", "(I)I"⟩
abbrev cX15_pass : ByteArray := prog_14_method_48_code
def yX15_pass : MethodName := ⟨RX15, "pass", "(I)I"⟩
abbrev cX15_call : ByteArray := prog_14_method_49_code
def yX15_call : MethodName := ⟨RX15, "call", "()I"⟩
abbrev cX15_means : ByteArray := prog_14_method_50_code
def yX15_means : MethodName := ⟨RX15, "means", "(II)I"⟩
abbrev cX15_ruleNow : ByteArray := prog_14_method_51_code
def yX15_ruleNow : MethodName := ⟨RX15, "ruleNow", "(II)I"⟩
abbrev cX15_ofRule : ByteArray := prog_14_method_52_code
def yX15_ofRule : MethodName := ⟨RX15, "ofRule", "(II)I"⟩
abbrev cX15_caseNow : ByteArray := prog_14_method_53_code
def yX15_caseNow : MethodName := ⟨RX15, "caseNow", "(II)I"⟩
abbrev cX15_ofCase : ByteArray := prog_14_method_54_code
def yX15_ofCase : MethodName := ⟨RX15, "ofCase", "(II)I"⟩
abbrev cX15_tells : ByteArray := prog_14_method_55_code
def yX15_tells : MethodName := ⟨RX15, "tells", "(II)I"⟩
abbrev cX15_articleNow : ByteArray := prog_14_method_56_code
def yX15_articleNow : MethodName := ⟨RX15, "articleNow", "(II)I"⟩
abbrev cX15_ofArticle : ByteArray := prog_14_method_57_code
def yX15_ofArticle : MethodName := ⟨RX15, "ofArticle", "(II)I"⟩
abbrev cX15_liking : ByteArray := prog_14_method_58_code
def yX15_liking : MethodName := ⟨RX15, "liking", "(II)I"⟩
abbrev cX15_factionNow : ByteArray := prog_14_method_59_code
def yX15_factionNow : MethodName := ⟨RX15, "factionNow", "(II)I"⟩
abbrev cX15_ofFaction : ByteArray := prog_14_method_60_code
def yX15_ofFaction : MethodName := ⟨RX15, "ofFaction", "(II)I"⟩
abbrev cX15_marks : ByteArray := prog_14_method_61_code
def yX15_marks : MethodName := ⟨RX15, "marks", "(I)[I"⟩
abbrev cX15_gridNow : ByteArray := prog_14_method_62_code
def yX15_gridNow : MethodName := ⟨RX15, "gridNow", "(III)[I"⟩
abbrev cX15_grid : ByteArray := prog_14_method_63_code
def yX15_grid : MethodName := ⟨RX15, "grid", "(III)I"⟩
abbrev cX15_isDead : ByteArray := prog_14_method_64_code
def yX15_isDead : MethodName := ⟨RX15, "isDead", "(II)Z"⟩
abbrev cX15_gainNow : ByteArray := prog_14_method_65_code
def yX15_gainNow : MethodName := ⟨RX15, "gainNow", "(I)I"⟩
abbrev cX15_gain : ByteArray := prog_14_method_66_code
def yX15_gain : MethodName := ⟨RX15, "gain", "(I)I"⟩
abbrev cX15_heldNow : ByteArray := prog_14_method_67_code
def yX15_heldNow : MethodName := ⟨RX15, "heldNow", "(IIIII)I"⟩
abbrev cX15_held : ByteArray := prog_14_method_68_code
def yX15_held : MethodName := ⟨RX15, "held", "(IIIII)I"⟩
abbrev cX15_uniformityNow : ByteArray := prog_14_method_69_code
def yX15_uniformityNow : MethodName := ⟨RX15, "uniformityNow", "()D"⟩
abbrev cX15_uniformity : ByteArray := prog_14_method_70_code
def yX15_uniformity : MethodName := ⟨RX15, "uniformity", "()D"⟩
abbrev cX15_realmNow : ByteArray := prog_14_method_71_code
def yX15_realmNow : MethodName := ⟨RX15, "realmNow", "(I)I"⟩
abbrev cX15_realm : ByteArray := prog_14_method_72_code
def yX15_realm : MethodName := ⟨RX15, "realm", "(I)I"⟩
abbrev cX15_text : ByteArray := prog_14_method_73_code
def yX15_text : MethodName := ⟨RX15, "text", "(I)Ljava/lang/String;"⟩
abbrev cX15_wouldVote : ByteArray := prog_14_method_74_code
def yX15_wouldVote : MethodName := ⟨RX15, "wouldVote", "(IIZ)I"⟩
abbrev cX15_wouldJudge : ByteArray := prog_14_method_75_code
def yX15_wouldJudge : MethodName := ⟨RX15, "wouldJudge", "(II)I"⟩
abbrev cX15_without : ByteArray := prog_14_method_76_code
def yX15_without : MethodName := ⟨RX15, "without", "(II)I"⟩
abbrev cX15_isSoundNow : ByteArray := prog_14_method_77_code
def yX15_isSoundNow : MethodName := ⟨RX15, "isSoundNow", "()Z"⟩
abbrev cX15_isSound : ByteArray := prog_14_method_78_code
def yX15_isSound : MethodName := ⟨RX15, "isSound", "()Z"⟩
abbrev cX15_digest : ByteArray := prog_14_method_79_code
def yX15_digest : MethodName := ⟨RX15, "digest", "()J"⟩
def RJx145de : String := "java/io/Serializable"
def TJx145de : u_T := fun k => match k with
  | _ => ("", "", "", false)
def tyJx145de : Nat → FieldType := fun k => match k with
  | _ => .int
theorem nmJx145de : ∀ a, a < 0 → ∀ b, b < 0 → a ≠ b → (TJx145de a).2.1 ≠ (TJx145de b).2.1 := by decide +kernel
theorem tyJx145de_ok : ∀ k, k < 0 → parseFieldDescriptor (TJx145de k).2.2.1 = some (tyJx145de k) := by decide +kernel
def RJ5 : String := "java/lang/AbstractStringBuilder"
def TJ5 : u_T := fun k => match k with
  | _ => ("", "", "", false)
def tyJ5 : Nat → FieldType := fun k => match k with
  | _ => .int
theorem nmJ5 : ∀ a, a < 0 → ∀ b, b < 0 → a ≠ b → (TJ5 a).2.1 ≠ (TJ5 b).2.1 := by decide +kernel
theorem tyJ5_ok : ∀ k, k < 0 → parseFieldDescriptor (TJ5 k).2.2.1 = some (tyJ5 k) := by decide +kernel
abbrev cJ5_init_d00df : ByteArray := prog_19_method_2_code
def yJ5_init_d00df : MethodName := ⟨RJ5, "<init>", "(I)V"⟩
abbrev cJ5_length_8abf5 : ByteArray := prog_19_method_6_code
def yJ5_length_8abf5 : MethodName := ⟨RJ5, "length", "()I"⟩
abbrev cJ5_ensureCapacityInternal_d00df : ByteArray := prog_19_method_9_code
def yJ5_ensureCapacityInternal_d00df : MethodName := ⟨RJ5, "ensureCapacityInternal", "(I)V"⟩
abbrev cJ5_newCapacity_0f7a4 : ByteArray := prog_19_method_10_code
def yJ5_newCapacity_0f7a4 : MethodName := ⟨RJ5, "newCapacity", "(I)I"⟩
abbrev cJ5_inflate_da8c8 : ByteArray := prog_19_method_11_code
def yJ5_inflate_da8c8 : MethodName := ⟨RJ5, "inflate", "()V"⟩
abbrev cJ5_append_cf1ce : ByteArray := prog_19_method_22_code
def yJ5_append_cf1ce : MethodName := ⟨RJ5, "append", "(Ljava/lang/String;)Ljava/lang/AbstractStringBuilder;"⟩
abbrev cJ5_appendNull_278bc : ByteArray := prog_19_method_26_code
def yJ5_appendNull_278bc : MethodName := ⟨RJ5, "appendNull", "()Ljava/lang/AbstractStringBuilder;"⟩
abbrev cJ5_append_3fe6f : ByteArray := prog_19_method_31_code
def yJ5_append_3fe6f : MethodName := ⟨RJ5, "append", "(C)Ljava/lang/AbstractStringBuilder;"⟩
abbrev cJ5_append_c97b9 : ByteArray := prog_19_method_32_code
def yJ5_append_c97b9 : MethodName := ⟨RJ5, "append", "(I)Ljava/lang/AbstractStringBuilder;"⟩
abbrev cJ5_getValue_6d5f1 : ByteArray := prog_19_method_64_code
def yJ5_getValue_6d5f1 : MethodName := ⟨RJ5, "getValue", "()[B"⟩
abbrev cJ5_isLatin1_aae02 : ByteArray := prog_19_method_68_code
def yJ5_isLatin1_aae02 : MethodName := ⟨RJ5, "isLatin1", "()Z"⟩
abbrev cJ5_inflateIfNeededFor_a7421 : ByteArray := prog_19_method_71_code
def yJ5_inflateIfNeededFor_a7421 : MethodName := ⟨RJ5, "inflateIfNeededFor", "(Ljava/lang/String;)V"⟩
abbrev cJ5_putStringAt_47b60 : ByteArray := prog_19_method_73_code
def yJ5_putStringAt_47b60 : MethodName := ⟨RJ5, "putStringAt", "(ILjava/lang/String;)V"⟩
def RJx2cfe8 : String := "java/lang/Appendable"
def TJx2cfe8 : u_T := fun k => match k with
  | _ => ("", "", "", false)
def tyJx2cfe8 : Nat → FieldType := fun k => match k with
  | _ => .int
theorem nmJx2cfe8 : ∀ a, a < 0 → ∀ b, b < 0 → a ≠ b → (TJx2cfe8 a).2.1 ≠ (TJx2cfe8 b).2.1 := by decide +kernel
theorem tyJx2cfe8_ok : ∀ k, k < 0 → parseFieldDescriptor (TJx2cfe8 k).2.2.1 = some (tyJx2cfe8 k) := by decide +kernel
def RJx9f9b0 : String := "java/lang/CharSequence"
def TJx9f9b0 : u_T := fun k => match k with
  | _ => ("", "", "", false)
def tyJx9f9b0 : Nat → FieldType := fun k => match k with
  | _ => .int
theorem nmJx9f9b0 : ∀ a, a < 0 → ∀ b, b < 0 → a ≠ b → (TJx9f9b0 a).2.1 ≠ (TJx9f9b0 b).2.1 := by decide +kernel
theorem tyJx9f9b0_ok : ∀ k, k < 0 → parseFieldDescriptor (TJx9f9b0 k).2.2.1 = some (tyJx9f9b0 k) := by decide +kernel
def RJx8e188 : String := "java/lang/Cloneable"
def TJx8e188 : u_T := fun k => match k with
  | _ => ("", "", "", false)
def tyJx8e188 : Nat → FieldType := fun k => match k with
  | _ => .int
theorem nmJx8e188 : ∀ a, a < 0 → ∀ b, b < 0 → a ≠ b → (TJx8e188 a).2.1 ≠ (TJx8e188 b).2.1 := by decide +kernel
theorem tyJx8e188_ok : ∀ k, k < 0 → parseFieldDescriptor (TJx8e188 k).2.2.1 = some (tyJx8e188 k) := by decide +kernel
def RJxb160c : String := "java/lang/Comparable"
def TJxb160c : u_T := fun k => match k with
  | _ => ("", "", "", false)
def tyJxb160c : Nat → FieldType := fun k => match k with
  | _ => .int
theorem nmJxb160c : ∀ a, a < 0 → ∀ b, b < 0 → a ≠ b → (TJxb160c a).2.1 ≠ (TJxb160c b).2.1 := by decide +kernel
theorem tyJxb160c_ok : ∀ k, k < 0 → parseFieldDescriptor (TJxb160c k).2.2.1 = some (tyJxb160c k) := by decide +kernel
def RJ6 : String := "java/lang/Integer"
def TJ6 : u_T := fun k => match k with
  | _ => ("", "", "", false)
def tyJ6 : Nat → FieldType := fun k => match k with
  | _ => .int
theorem nmJ6 : ∀ a, a < 0 → ∀ b, b < 0 → a ≠ b → (TJ6 a).2.1 ≠ (TJ6 b).2.1 := by decide +kernel
theorem tyJ6_ok : ∀ k, k < 0 → parseFieldDescriptor (TJ6 k).2.2.1 = some (tyJ6 k) := by decide +kernel
abbrev cJ6_getChars_ba4f3 : ByteArray := prog_28_method_12_code
def yJ6_getChars_ba4f3 : MethodName := ⟨RJ6, "getChars", "(II[B)I"⟩
abbrev cJ6_stringSize_0f7a4 : ByteArray := prog_28_method_13_code
def yJ6_stringSize_0f7a4 : MethodName := ⟨RJ6, "stringSize", "(I)I"⟩
abbrev cJ6_compare_7cf53 : ByteArray := prog_28_method_40_code
def yJ6_compare_7cf53 : MethodName := ⟨RJ6, "compare", "(II)I"⟩
abbrev cJ6_bitCount_0f7a4 : ByteArray := prog_28_method_49_code
def yJ6_bitCount_0f7a4 : MethodName := ⟨RJ6, "bitCount", "(I)I"⟩
def RJxab1ab : String := "java/lang/Iterable"
def TJxab1ab : u_T := fun k => match k with
  | _ => ("", "", "", false)
def tyJxab1ab : Nat → FieldType := fun k => match k with
  | _ => .int
theorem nmJxab1ab : ∀ a, a < 0 → ∀ b, b < 0 → a ≠ b → (TJxab1ab a).2.1 ≠ (TJxab1ab b).2.1 := by decide +kernel
theorem tyJxab1ab_ok : ∀ k, k < 0 → parseFieldDescriptor (TJxab1ab k).2.2.1 = some (tyJxab1ab k) := by decide +kernel
def RJ9 : String := "java/lang/Math"
def TJ9 : u_T := fun k => match k with
  | _ => ("", "", "", false)
def tyJ9 : Nat → FieldType := fun k => match k with
  | _ => .int
theorem nmJ9 : ∀ a, a < 0 → ∀ b, b < 0 → a ≠ b → (TJ9 a).2.1 ≠ (TJ9 b).2.1 := by decide +kernel
theorem tyJ9_ok : ∀ k, k < 0 → parseFieldDescriptor (TJ9 k).2.2.1 = some (tyJ9 k) := by decide +kernel
abbrev cJ9_max_7cf53 : ByteArray := prog_30_method_65_code
def yJ9_max_7cf53 : MethodName := ⟨RJ9, "max", "(II)I"⟩
abbrev cJ9_min_7cf53 : ByteArray := prog_30_method_69_code
def yJ9_min_7cf53 : MethodName := ⟨RJ9, "min", "(II)I"⟩
def RJxd2413 : String := "java/lang/Number"
def TJxd2413 : u_T := fun k => match k with
  | _ => ("", "", "", false)
def tyJxd2413 : Nat → FieldType := fun k => match k with
  | _ => .int
theorem nmJxd2413 : ∀ a, a < 0 → ∀ b, b < 0 → a ≠ b → (TJxd2413 a).2.1 ≠ (TJxd2413 b).2.1 := by decide +kernel
theorem tyJxd2413_ok : ∀ k, k < 0 → parseFieldDescriptor (TJxd2413 k).2.2.1 = some (tyJxd2413 k) := by decide +kernel
def RJ0 : String := "java/lang/String"
def TJ0 : u_T := fun k => match k with
  | 0 => ("java/lang/String", "value", "[B", true)
  | 1 => ("java/lang/String", "coder", "B", true)
  | 2 => ("java/lang/String", "hash", "I", false)
  | _ => ("java/lang/String", "hashIsZero", "Z", false)
def tyJ0 : Nat → FieldType := fun k => match k with
  | 0 => .array .byte
  | 1 => .byte
  | 2 => .int
  | _ => .boolean
theorem nmJ0 : ∀ a, a < 4 → ∀ b, b < 4 → a ≠ b → (TJ0 a).2.1 ≠ (TJ0 b).2.1 := by decide +kernel
theorem tyJ0_ok : ∀ k, k < 4 → parseFieldDescriptor (TJ0 k).2.2.1 = some (tyJ0 k) := by decide +kernel
abbrev cJ0_init_81219 : ByteArray := prog_33_method_53_code
def yJ0_init_81219 : MethodName := ⟨RJ0, "<init>", "(Ljava/lang/StringBuilder;)V"⟩
abbrev cJ0_length_8abf5 : ByteArray := prog_33_method_54_code
def yJ0_length_8abf5 : MethodName := ⟨RJ0, "length", "()I"⟩
abbrev cJ0_charAt_5068e : ByteArray := prog_33_method_56_code
def yJ0_charAt_5068e : MethodName := ⟨RJ0, "charAt", "(I)C"⟩
abbrev cJ0_getBytes_840e7 : ByteArray := prog_33_method_147_code
def yJ0_getBytes_840e7 : MethodName := ⟨RJ0, "getBytes", "([BIB)V"⟩
abbrev cJ0_init_db425 : ByteArray := prog_33_method_150_code
def yJ0_init_db425 : MethodName := ⟨RJ0, "<init>", "(Ljava/lang/AbstractStringBuilder;Ljava/lang/Void;)V"⟩
abbrev cJ0_coder_7d493 : ByteArray := prog_33_method_152_code
def yJ0_coder_7d493 : MethodName := ⟨RJ0, "coder", "()B"⟩
abbrev cJ0_isLatin1_aae02 : ByteArray := prog_33_method_154_code
def yJ0_isLatin1_aae02 : MethodName := ⟨RJ0, "isLatin1", "()Z"⟩
abbrev cJ0_checkIndex_df160 : ByteArray := prog_33_method_155_code
def yJ0_checkIndex_df160 : MethodName := ⟨RJ0, "checkIndex", "(II)V"⟩
abbrev cJ0_checkBoundsOffCount_cabcc : ByteArray := prog_33_method_157_code
def yJ0_checkBoundsOffCount_cabcc : MethodName := ⟨RJ0, "checkBoundsOffCount", "(III)I"⟩
abbrev cJ0_checkBoundsBeginEnd_23922 : ByteArray := prog_33_method_158_code
def yJ0_checkBoundsBeginEnd_23922 : MethodName := ⟨RJ0, "checkBoundsBeginEnd", "(III)V"⟩
def RJ4 : String := "java/lang/StringBuilder"
def TJ4 : u_T := fun k => match k with
  | 0 => ("java/lang/AbstractStringBuilder", "value", "[B", false)
  | 1 => ("java/lang/AbstractStringBuilder", "coder", "B", false)
  | 2 => ("java/lang/AbstractStringBuilder", "maybeLatin1", "Z", false)
  | _ => ("java/lang/AbstractStringBuilder", "count", "I", false)
def tyJ4 : Nat → FieldType := fun k => match k with
  | 0 => .array .byte
  | 1 => .byte
  | 2 => .boolean
  | _ => .int
theorem nmJ4 : ∀ a, a < 4 → ∀ b, b < 4 → a ≠ b → (TJ4 a).2.1 ≠ (TJ4 b).2.1 := by decide +kernel
theorem tyJ4_ok : ∀ k, k < 4 → parseFieldDescriptor (TJ4 k).2.2.1 = some (tyJ4 k) := by decide +kernel
abbrev cJ4_init_da8c8 : ByteArray := prog_34_method_1_code
def yJ4_init_da8c8 : MethodName := ⟨RJ4, "<init>", "()V"⟩
abbrev cJ4_append_15ec4 : ByteArray := prog_34_method_7_code
def yJ4_append_15ec4 : MethodName := ⟨RJ4, "append", "(Ljava/lang/String;)Ljava/lang/StringBuilder;"⟩
abbrev cJ4_append_cf468 : ByteArray := prog_34_method_14_code
def yJ4_append_cf468 : MethodName := ⟨RJ4, "append", "(C)Ljava/lang/StringBuilder;"⟩
abbrev cJ4_append_bf812 : ByteArray := prog_34_method_15_code
def yJ4_append_bf812 : MethodName := ⟨RJ4, "append", "(I)Ljava/lang/StringBuilder;"⟩
abbrev cJ4_toString_0e30d : ByteArray := prog_34_method_42_code
def yJ4_toString_0e30d : MethodName := ⟨RJ4, "toString", "()Ljava/lang/String;"⟩
abbrev cJ4_length_8abf5 : ByteArray := prog_34_method_93_code
def yJ4_length_8abf5 : MethodName := ⟨RJ4, "length", "()I"⟩
def RJ1 : String := "java/lang/StringLatin1"
def TJ1 : u_T := fun k => match k with
  | _ => ("", "", "", false)
def tyJ1 : Nat → FieldType := fun k => match k with
  | _ => .int
theorem nmJ1 : ∀ a, a < 0 → ∀ b, b < 0 → a ≠ b → (TJ1 a).2.1 ≠ (TJ1 b).2.1 := by decide +kernel
theorem tyJ1_ok : ∀ k, k < 0 → parseFieldDescriptor (TJ1 k).2.2.1 = some (tyJ1 k) := by decide +kernel
abbrev cJ1_charAt_3b067 : ByteArray := prog_35_method_2_code
def yJ1_charAt_3b067 : MethodName := ⟨RJ1, "charAt", "([BI)C"⟩
abbrev cJ1_canEncode_fc78d : ByteArray := prog_35_method_3_code
def yJ1_canEncode_fc78d : MethodName := ⟨RJ1, "canEncode", "(C)Z"⟩
abbrev cJ1_inflate_0e8fd : ByteArray := prog_35_method_50_code
def yJ1_inflate_0e8fd : MethodName := ⟨RJ1, "inflate", "([BI[BII)V"⟩
def RJ2 : String := "java/lang/StringUTF16"
def TJ2 : u_T := fun k => match k with
  | _ => ("", "", "", false)
def tyJ2 : Nat → FieldType := fun k => match k with
  | _ => .int
theorem nmJ2 : ∀ a, a < 0 → ∀ b, b < 0 → a ≠ b → (TJ2 a).2.1 ≠ (TJ2 b).2.1 := by decide +kernel
theorem tyJ2_ok : ∀ k, k < 0 → parseFieldDescriptor (TJ2 k).2.2.1 = some (tyJ2 k) := by decide +kernel
abbrev cJ2_newBytesFor_77867 : ByteArray := prog_36_method_2_code
def yJ2_newBytesFor_77867 : MethodName := ⟨RJ2, "newBytesFor", "(I)[B"⟩
abbrev cJ2_newBytesLength_0f7a4 : ByteArray := prog_36_method_3_code
def yJ2_newBytesLength_0f7a4 : MethodName := ⟨RJ2, "newBytesLength", "(I)I"⟩
abbrev cJ2_putChar_b72d1 : ByteArray := prog_36_method_4_code
def yJ2_putChar_b72d1 : MethodName := ⟨RJ2, "putChar", "([BII)V"⟩
abbrev cJ2_getChar_3b067 : ByteArray := prog_36_method_5_code
def yJ2_getChar_3b067 : MethodName := ⟨RJ2, "getChar", "([BI)C"⟩
abbrev cJ2_length_9d52b : ByteArray := prog_36_method_6_code
def yJ2_length_9d52b : MethodName := ⟨RJ2, "length", "([B)I"⟩
abbrev cJ2_coderFromArrayLen_85cad : ByteArray := prog_36_method_15_code
def yJ2_coderFromArrayLen_85cad : MethodName := ⟨RJ2, "coderFromArrayLen", "([BI)B"⟩
abbrev cJ2_compress_39247 : ByteArray := prog_36_method_17_code
def yJ2_compress_39247 : MethodName := ⟨RJ2, "compress", "([BII)[B"⟩
abbrev cJ2_compress_5af95 : ByteArray := prog_36_method_22_code
def yJ2_compress_5af95 : MethodName := ⟨RJ2, "compress", "([BI[BII)I"⟩
abbrev cJ2_putCharSB_b72d1 : ByteArray := prog_36_method_71_code
def yJ2_putCharSB_b72d1 : MethodName := ⟨RJ2, "putCharSB", "([BII)V"⟩
abbrev cJ2_getChars_46870 : ByteArray := prog_36_method_77_code
def yJ2_getChars_46870 : MethodName := ⟨RJ2, "getChars", "(III[B)I"⟩
abbrev cJ2_putCharsAt_cd4e5 : ByteArray := prog_36_method_81_code
def yJ2_putCharsAt_cd4e5 : MethodName := ⟨RJ2, "putCharsAt", "([BICCCC)I"⟩
abbrev cJ2_charAt_3b067 : ByteArray := prog_36_method_83_code
def yJ2_charAt_3b067 : MethodName := ⟨RJ2, "charAt", "([BI)C"⟩
abbrev cJ2_inflate_0e8fd : ByteArray := prog_36_method_86_code
def yJ2_inflate_0e8fd : MethodName := ⟨RJ2, "inflate", "([BI[BII)V"⟩
abbrev cJ2_getChars_ba4f3 : ByteArray := prog_36_method_89_code
def yJ2_getChars_ba4f3 : MethodName := ⟨RJ2, "getChars", "(II[B)I"⟩
abbrev cJ2_checkIndex_2214a : ByteArray := prog_36_method_91_code
def yJ2_checkIndex_2214a : MethodName := ⟨RJ2, "checkIndex", "(I[B)V"⟩
abbrev cJ2_checkBoundsBeginEnd_d044e : ByteArray := prog_36_method_93_code
def yJ2_checkBoundsBeginEnd_d044e : MethodName := ⟨RJ2, "checkBoundsBeginEnd", "(II[B)V"⟩
abbrev cJ2_checkBoundsOffCount_d044e : ByteArray := prog_36_method_94_code
def yJ2_checkBoundsOffCount_d044e : MethodName := ⟨RJ2, "checkBoundsOffCount", "(II[B)V"⟩
def RJ10 : String := "java/lang/System"
def TJ10 : u_T := fun k => match k with
  | _ => ("", "", "", false)
def tyJ10 : Nat → FieldType := fun k => match k with
  | _ => .int
theorem nmJ10 : ∀ a, a < 0 → ∀ b, b < 0 → a ≠ b → (TJ10 a).2.1 ≠ (TJ10 b).2.1 := by decide +kernel
theorem tyJ10_ok : ∀ k, k < 0 → parseFieldDescriptor (TJ10 k).2.2.1 = some (tyJ10 k) := by decide +kernel
def RJxfd54e : String := "java/lang/constant/Constable"
def TJxfd54e : u_T := fun k => match k with
  | _ => ("", "", "", false)
def tyJxfd54e : Nat → FieldType := fun k => match k with
  | _ => .int
theorem nmJxfd54e : ∀ a, a < 0 → ∀ b, b < 0 → a ≠ b → (TJxfd54e a).2.1 ≠ (TJxfd54e b).2.1 := by decide +kernel
theorem tyJxfd54e_ok : ∀ k, k < 0 → parseFieldDescriptor (TJxfd54e k).2.2.1 = some (tyJxfd54e k) := by decide +kernel
def RJx3cf43 : String := "java/lang/constant/ConstantDesc"
def TJx3cf43 : u_T := fun k => match k with
  | _ => ("", "", "", false)
def tyJx3cf43 : Nat → FieldType := fun k => match k with
  | _ => .int
theorem nmJx3cf43 : ∀ a, a < 0 → ∀ b, b < 0 → a ≠ b → (TJx3cf43 a).2.1 ≠ (TJx3cf43 b).2.1 := by decide +kernel
theorem tyJx3cf43_ok : ∀ k, k < 0 → parseFieldDescriptor (TJx3cf43 k).2.2.1 = some (tyJx3cf43 k) := by decide +kernel
def RJxa1e45 : String := "java/util/AbstractCollection"
def TJxa1e45 : u_T := fun k => match k with
  | _ => ("", "", "", false)
def tyJxa1e45 : Nat → FieldType := fun k => match k with
  | _ => .int
theorem nmJxa1e45 : ∀ a, a < 0 → ∀ b, b < 0 → a ≠ b → (TJxa1e45 a).2.1 ≠ (TJxa1e45 b).2.1 := by decide +kernel
theorem tyJxa1e45_ok : ∀ k, k < 0 → parseFieldDescriptor (TJxa1e45 k).2.2.1 = some (tyJxa1e45 k) := by decide +kernel
abbrev cJxa1e45_init_da8c8 : ByteArray := prog_41_method_1_code
def yJxa1e45_init_da8c8 : MethodName := ⟨RJxa1e45, "<init>", "()V"⟩
def RJxc12de : String := "java/util/AbstractList"
def TJxc12de : u_T := fun k => match k with
  | _ => ("", "", "", false)
def tyJxc12de : Nat → FieldType := fun k => match k with
  | _ => .int
theorem nmJxc12de : ∀ a, a < 0 → ∀ b, b < 0 → a ≠ b → (TJxc12de a).2.1 ≠ (TJxc12de b).2.1 := by decide +kernel
theorem tyJxc12de_ok : ∀ k, k < 0 → parseFieldDescriptor (TJxc12de k).2.2.1 = some (tyJxc12de k) := by decide +kernel
abbrev cJxc12de_init_da8c8 : ByteArray := prog_42_method_1_code
def yJxc12de_init_da8c8 : MethodName := ⟨RJxc12de, "<init>", "()V"⟩
def RJx4a65c : String := "java/util/ArrayList"
def TJx4a65c : u_T := fun k => match k with
  | 0 => ("java/util/AbstractList", "modCount", "I", false)
  | 1 => ("java/util/ArrayList", "elementData", "[Ljava/lang/Object;", false)
  | _ => ("java/util/ArrayList", "size", "I", false)
def tyJx4a65c : Nat → FieldType := fun k => match k with
  | 0 => .int
  | 1 => .array (.object "java/lang/Object")
  | _ => .int
theorem nmJx4a65c : ∀ a, a < 3 → ∀ b, b < 3 → a ≠ b → (TJx4a65c a).2.1 ≠ (TJx4a65c b).2.1 := by decide +kernel
theorem tyJx4a65c_ok : ∀ k, k < 3 → parseFieldDescriptor (TJx4a65c k).2.2.1 = some (tyJx4a65c k) := by decide +kernel
abbrev cJx4a65c_init_da8c8 : ByteArray := prog_43_method_2_code
def yJx4a65c_init_da8c8 : MethodName := ⟨RJx4a65c, "<init>", "()V"⟩
abbrev cJx4a65c_grow_92f84 : ByteArray := prog_43_method_6_code
def yJx4a65c_grow_92f84 : MethodName := ⟨RJx4a65c, "grow", "(I)[Ljava/lang/Object;"⟩
abbrev cJx4a65c_grow_d5877 : ByteArray := prog_43_method_7_code
def yJx4a65c_grow_d5877 : MethodName := ⟨RJx4a65c, "grow", "()[Ljava/lang/Object;"⟩
abbrev cJx4a65c_size_8abf5 : ByteArray := prog_43_method_8_code
def yJx4a65c_size_8abf5 : MethodName := ⟨RJx4a65c, "size", "()I"⟩
abbrev cJx4a65c_elementData_915e3 : ByteArray := prog_43_method_18_code
def yJx4a65c_elementData_915e3 : MethodName := ⟨RJx4a65c, "elementData", "(I)Ljava/lang/Object;"⟩
abbrev cJx4a65c_get_915e3 : ByteArray := prog_43_method_20_code
def yJx4a65c_get_915e3 : MethodName := ⟨RJx4a65c, "get", "(I)Ljava/lang/Object;"⟩
abbrev cJx4a65c_set_bcc79 : ByteArray := prog_43_method_23_code
def yJx4a65c_set_bcc79 : MethodName := ⟨RJx4a65c, "set", "(ILjava/lang/Object;)Ljava/lang/Object;"⟩
abbrev cJx4a65c_add_72be8 : ByteArray := prog_43_method_24_code
def yJx4a65c_add_72be8 : MethodName := ⟨RJx4a65c, "add", "(Ljava/lang/Object;[Ljava/lang/Object;I)V"⟩
abbrev cJx4a65c_add_9ea2d : ByteArray := prog_43_method_25_code
def yJx4a65c_add_9ea2d : MethodName := ⟨RJx4a65c, "add", "(Ljava/lang/Object;)Z"⟩
def RJ7 : String := "java/util/Arrays"
def TJ7 : u_T := fun k => match k with
  | _ => ("", "", "", false)
def tyJ7 : Nat → FieldType := fun k => match k with
  | _ => .int
theorem nmJ7 : ∀ a, a < 0 → ∀ b, b < 0 → a ≠ b → (TJ7 a).2.1 ≠ (TJ7 b).2.1 := by decide +kernel
theorem tyJ7_ok : ∀ k, k < 0 → parseFieldDescriptor (TJ7 k).2.2.1 = some (tyJ7 k) := by decide +kernel
abbrev cJ7_copyOf_1904c : ByteArray := prog_44_method_119_code
def yJ7_copyOf_1904c : MethodName := ⟨RJ7, "copyOf", "([Ljava/lang/Object;I)[Ljava/lang/Object;"⟩
abbrev cJ7_copyOf_6403c : ByteArray := prog_44_method_120_code
def yJ7_copyOf_6403c : MethodName := ⟨RJ7, "copyOf", "([Ljava/lang/Object;ILjava/lang/Class;)[Ljava/lang/Object;"⟩
abbrev cJ7_copyOf_9075b : ByteArray := prog_44_method_121_code
def yJ7_copyOf_9075b : MethodName := ⟨RJ7, "copyOf", "([BI)[B"⟩
abbrev cJ7_checkLength_df160 : ByteArray := prog_44_method_131_code
def yJ7_checkLength_df160 : MethodName := ⟨RJ7, "checkLength", "(II)V"⟩
abbrev cJ7_copyOfRange_39247 : ByteArray := prog_44_method_132_code
def yJ7_copyOfRange_39247 : MethodName := ⟨RJ7, "copyOfRange", "([BII)[B"⟩
abbrev cJ7_copyOfRangeByte_39247 : ByteArray := prog_44_method_133_code
def yJ7_copyOfRangeByte_39247 : MethodName := ⟨RJ7, "copyOfRangeByte", "([BII)[B"⟩
def RJx5ef63 : String := "java/util/Collection"
def TJx5ef63 : u_T := fun k => match k with
  | _ => ("", "", "", false)
def tyJx5ef63 : Nat → FieldType := fun k => match k with
  | _ => .int
theorem nmJx5ef63 : ∀ a, a < 0 → ∀ b, b < 0 → a ≠ b → (TJx5ef63 a).2.1 ≠ (TJx5ef63 b).2.1 := by decide +kernel
theorem tyJx5ef63_ok : ∀ k, k < 0 → parseFieldDescriptor (TJx5ef63 k).2.2.1 = some (tyJx5ef63 k) := by decide +kernel
def RJxbd725 : String := "java/util/List"
def TJxbd725 : u_T := fun k => match k with
  | _ => ("", "", "", false)
def tyJxbd725 : Nat → FieldType := fun k => match k with
  | _ => .int
theorem nmJxbd725 : ∀ a, a < 0 → ∀ b, b < 0 → a ≠ b → (TJxbd725 a).2.1 ≠ (TJxbd725 b).2.1 := by decide +kernel
theorem tyJxbd725_ok : ∀ k, k < 0 → parseFieldDescriptor (TJxbd725 k).2.2.1 = some (tyJxbd725 k) := by decide +kernel
def RJ15 : String := "java/util/Objects"
def TJ15 : u_T := fun k => match k with
  | _ => ("", "", "", false)
def tyJ15 : Nat → FieldType := fun k => match k with
  | _ => .int
theorem nmJ15 : ∀ a, a < 0 → ∀ b, b < 0 → a ≠ b → (TJ15 a).2.1 ≠ (TJ15 b).2.1 := by decide +kernel
theorem tyJ15_ok : ∀ k, k < 0 → parseFieldDescriptor (TJ15 k).2.2.1 = some (tyJ15 k) := by decide +kernel
abbrev cJ15_checkIndex_7cf53 : ByteArray := prog_47_method_17_code
def yJ15_checkIndex_7cf53 : MethodName := ⟨RJ15, "checkIndex", "(II)I"⟩
def RJxf0a74 : String := "java/util/RandomAccess"
def TJxf0a74 : u_T := fun k => match k with
  | _ => ("", "", "", false)
def tyJxf0a74 : Nat → FieldType := fun k => match k with
  | _ => .int
theorem nmJxf0a74 : ∀ a, a < 0 → ∀ b, b < 0 → a ≠ b → (TJxf0a74 a).2.1 ≠ (TJxf0a74 b).2.1 := by decide +kernel
theorem tyJxf0a74_ok : ∀ k, k < 0 → parseFieldDescriptor (TJxf0a74 k).2.2.1 = some (tyJxf0a74 k) := by decide +kernel
def RJxa66e6 : String := "java/util/SequencedCollection"
def TJxa66e6 : u_T := fun k => match k with
  | _ => ("", "", "", false)
def tyJxa66e6 : Nat → FieldType := fun k => match k with
  | _ => .int
theorem nmJxa66e6 : ∀ a, a < 0 → ∀ b, b < 0 → a ≠ b → (TJxa66e6 a).2.1 ≠ (TJxa66e6 b).2.1 := by decide +kernel
theorem tyJxa66e6_ok : ∀ k, k < 0 → parseFieldDescriptor (TJxa66e6 k).2.2.1 = some (tyJxa66e6 k) := by decide +kernel
def RJ8 : String := "jdk/internal/util/ArraysSupport"
def TJ8 : u_T := fun k => match k with
  | _ => ("", "", "", false)
def tyJ8 : Nat → FieldType := fun k => match k with
  | _ => .int
theorem nmJ8 : ∀ a, a < 0 → ∀ b, b < 0 → a ≠ b → (TJ8 a).2.1 ≠ (TJ8 b).2.1 := by decide +kernel
theorem tyJ8_ok : ∀ k, k < 0 → parseFieldDescriptor (TJ8 k).2.2.1 = some (tyJ8 k) := by decide +kernel
abbrev cJ8_newLength_cabcc : ByteArray := prog_50_method_27_code
def yJ8_newLength_cabcc : MethodName := ⟨RJ8, "newLength", "(III)I"⟩
abbrev cJ8_hugeLength_7cf53 : ByteArray := prog_50_method_28_code
def yJ8_hugeLength_7cf53 : MethodName := ⟨RJ8, "hugeLength", "(II)I"⟩
def RJ3 : String := "jdk/internal/util/Preconditions"
def TJ3 : u_T := fun k => match k with
  | _ => ("", "", "", false)
def tyJ3 : Nat → FieldType := fun k => match k with
  | _ => .int
theorem nmJ3 : ∀ a, a < 0 → ∀ b, b < 0 → a ≠ b → (TJ3 a).2.1 ≠ (TJ3 b).2.1 := by decide +kernel
theorem tyJ3_ok : ∀ k, k < 0 → parseFieldDescriptor (TJ3 k).2.2.1 = some (tyJ3 k) := by decide +kernel
abbrev cJ3_checkIndex_8e157 : ByteArray := prog_51_method_11_code
def yJ3_checkIndex_8e157 : MethodName := ⟨RJ3, "checkIndex", "(IILjava/util/function/BiFunction;)I"⟩
abbrev cJ3_checkFromToIndex_8c36e : ByteArray := prog_51_method_12_code
def yJ3_checkFromToIndex_8c36e : MethodName := ⟨RJ3, "checkFromToIndex", "(IIILjava/util/function/BiFunction;)I"⟩
abbrev cJ3_checkFromIndexSize_8c36e : ByteArray := prog_51_method_13_code
def yJ3_checkFromIndexSize_8c36e : MethodName := ⟨RJ3, "checkFromIndexSize", "(IIILjava/util/function/BiFunction;)I"⟩
def RL : String := "OnecodeChanceryLaw"
abbrev cL_people : ByteArray := method_2_code
def yL_people : MethodName := ⟨RL, "people", "(LOnecodeChancery;IILOnecodeChanceryLaw$Out;)I"⟩
abbrev cL_swap : ByteArray := method_3_code
def yL_swap : MethodName := ⟨RL, "swap", "(LOnecodeChancery;IIILOnecodeChanceryLaw$Out;)I"⟩
abbrev cL_tie : ByteArray := method_4_code
def yL_tie : MethodName := ⟨RL, "tie", "(LOnecodeChancery;IILOnecodeChanceryLaw$Out;)I"⟩
abbrev cL_rule : ByteArray := method_5_code
def yL_rule : MethodName := ⟨RL, "rule", "(LOnecodeChancery;IIIIIIILOnecodeChanceryLaw$Out;)I"⟩
abbrev cL_limit : ByteArray := method_6_code
def yL_limit : MethodName := ⟨RL, "limit", "(LOnecodeChancery;IIILOnecodeChanceryLaw$Out;)I"⟩
abbrev cL_dispute : ByteArray := method_7_code
def yL_dispute : MethodName := ⟨RL, "dispute", "(LOnecodeChancery;IIIIIIILOnecodeChanceryLaw$Out;)I"⟩
abbrev cL_feed : ByteArray := method_8_code
def yL_feed : MethodName := ⟨RL, "feed", "(LOnecodeChancery;ILOnecodeChanceryLaw$Out;)I"⟩
abbrev cL_write : ByteArray := method_9_code
def yL_write : MethodName := ⟨RL, "write", "(LOnecodeChancery;LOnecodeChanceryLaw$Out;)I"⟩
abbrev cL_amend : ByteArray := method_10_code
def yL_amend : MethodName := ⟨RL, "amend", "(LOnecodeChancery;ILOnecodeChanceryLaw$Out;)I"⟩
abbrev cL_seats : ByteArray := method_11_code
def yL_seats : MethodName := ⟨RL, "seats", "(LOnecodeChancery;IIILOnecodeChanceryLaw$Out;)I"⟩
abbrev cL_mood : ByteArray := method_12_code
def yL_mood : MethodName := ⟨RL, "mood", "(LOnecodeChancery;IIILOnecodeChanceryLaw$Out;)I"⟩
abbrev cL_taste : ByteArray := method_13_code
def yL_taste : MethodName := ⟨RL, "taste", "(LOnecodeChancery;IILOnecodeChanceryLaw$Out;)I"⟩
abbrev cL_pledge : ByteArray := method_14_code
def yL_pledge : MethodName := ⟨RL, "pledge", "(LOnecodeChancery;IILOnecodeChanceryLaw$Out;)I"⟩
abbrev cL_vote : ByteArray := method_15_code
def yL_vote : MethodName := ⟨RL, "vote", "(LOnecodeChancery;ILOnecodeChanceryLaw$Out;)I"⟩
abbrev cL_repeal : ByteArray := method_16_code
def yL_repeal : MethodName := ⟨RL, "repeal", "(LOnecodeChancery;ILOnecodeChanceryLaw$Out;)I"⟩
abbrev cL_way : ByteArray := method_17_code
def yL_way : MethodName := ⟨RL, "way", "(LOnecodeChancery;IILOnecodeChanceryLaw$Out;)I"⟩
abbrev cL_judge : ByteArray := method_18_code
def yL_judge : MethodName := ⟨RL, "judge", "(LOnecodeChancery;IILOnecodeChanceryLaw$Out;)I"⟩
abbrev cL_appeal : ByteArray := method_19_code
def yL_appeal : MethodName := ⟨RL, "appeal", "(LOnecodeChancery;ILOnecodeChanceryLaw$Out;)I"⟩
abbrev cL_pass : ByteArray := method_20_code
def yL_pass : MethodName := ⟨RL, "pass", "(LOnecodeChancery;ILOnecodeChanceryLaw$Out;)I"⟩
abbrev cL_means : ByteArray := method_21_code
def yL_means : MethodName := ⟨RL, "means", "(LOnecodeChancery;IILOnecodeChanceryLaw$Out;)I"⟩
abbrev cL_ofRule : ByteArray := method_22_code
def yL_ofRule : MethodName := ⟨RL, "ofRule", "(LOnecodeChancery;IILOnecodeChanceryLaw$Out;)I"⟩
abbrev cL_ofCase : ByteArray := method_23_code
def yL_ofCase : MethodName := ⟨RL, "ofCase", "(LOnecodeChancery;IILOnecodeChanceryLaw$Out;)I"⟩
abbrev cL_tells : ByteArray := method_24_code
def yL_tells : MethodName := ⟨RL, "tells", "(LOnecodeChancery;IILOnecodeChanceryLaw$Out;)I"⟩
abbrev cL_ofArticle : ByteArray := method_25_code
def yL_ofArticle : MethodName := ⟨RL, "ofArticle", "(LOnecodeChancery;IILOnecodeChanceryLaw$Out;)I"⟩
abbrev cL_liking : ByteArray := method_26_code
def yL_liking : MethodName := ⟨RL, "liking", "(LOnecodeChancery;IILOnecodeChanceryLaw$Out;)I"⟩
abbrev cL_ofFaction : ByteArray := method_27_code
def yL_ofFaction : MethodName := ⟨RL, "ofFaction", "(LOnecodeChancery;IILOnecodeChanceryLaw$Out;)I"⟩
abbrev cL_grid : ByteArray := method_28_code
def yL_grid : MethodName := ⟨RL, "grid", "(LOnecodeChancery;IIILOnecodeChanceryLaw$Out;)I"⟩
abbrev cL_isDead : ByteArray := method_29_code
def yL_isDead : MethodName := ⟨RL, "isDead", "(LOnecodeChancery;IILOnecodeChanceryLaw$Out;)I"⟩
abbrev cL_gain : ByteArray := method_30_code
def yL_gain : MethodName := ⟨RL, "gain", "(LOnecodeChancery;ILOnecodeChanceryLaw$Out;)I"⟩
abbrev cL_held : ByteArray := method_31_code
def yL_held : MethodName := ⟨RL, "held", "(LOnecodeChancery;IIIIILOnecodeChanceryLaw$Out;)I"⟩
abbrev cL_realm : ByteArray := method_32_code
def yL_realm : MethodName := ⟨RL, "realm", "(LOnecodeChancery;ILOnecodeChanceryLaw$Out;)I"⟩
abbrev cL_text : ByteArray := method_33_code
def yL_text : MethodName := ⟨RL, "text", "(LOnecodeChancery;ILOnecodeChanceryLaw$Out;)I"⟩
abbrev cL_wouldVote : ByteArray := method_34_code
def yL_wouldVote : MethodName := ⟨RL, "wouldVote", "(LOnecodeChancery;IIZLOnecodeChanceryLaw$Out;)I"⟩
abbrev cL_wouldJudge : ByteArray := method_35_code
def yL_wouldJudge : MethodName := ⟨RL, "wouldJudge", "(LOnecodeChancery;IILOnecodeChanceryLaw$Out;)I"⟩
abbrev cL_without : ByteArray := method_36_code
def yL_without : MethodName := ⟨RL, "without", "(LOnecodeChancery;IILOnecodeChanceryLaw$Out;)I"⟩
abbrev cL_law : ByteArray := code
def yL_law : MethodName := ⟨RL, "law", "([I)Z"⟩
abbrev vwCl : List vw_C := [(RJ0, TJ0, 4), (RJ4, TJ4, 4), (RJx4a65c, TJx4a65c, 3), (RX0, TX0, 6), (RX1, TX1, 11), (RX2, TX2, 5), (RX3, TX3, 3), (RX4, TX4, 9), (RX5, TX5, 3), (RX6, TX6, 4), (RX7, TX7, 5), (RX8, TX8, 1), (RX9, TX9, 11), (RX10, TX10, 14), (RX11, TX11, 2), (RX12, TX12, 12), (RX13, TX13, 9), (RX14, TX14, 10), (RX15, TX15, 18)]
end
section
/-! ===== the small machine: addresses by place, locals as a list; what changes no heap ===== -/
/-- a cell: the place of its class and its fields (below 90), something unread (98), an array of the kind (100 on) and its contents -/
abbrev zC : Type := Nat × List Value
def zTys : List FieldType := [.int, .byte, .boolean, .char, .array .int, .object "java/lang/Object", .object "OnecodeChancery$Article", .object "OnecodeChancery$Dispute", .object "OnecodeChancery$Faction", .object "OnecodeChancery$Rule"]
def zTy (k : Nat) : FieldType := zTys.getD (k - 100) .int
def zt (τ : Nat → Nat) : Value → Value
  | .ref i => .ref (τ i)
  | v => v
theorem zt_cat (τ : Nat → Nat) (v : Value) : (zt τ v).category = v.category := by cases v <;> rfl
def zlm (τ : Nat → Nat) (lv : List (Nat × Value)) : List (Nat × Value) := lv.map (fun q => (q.1, zt τ q.2))
def zld : List (Nat × Value) → Nat → Option Value
  | [], _ => none
  | q :: r, i => if q.1 = i then some q.2 else zld r i
theorem zld_mem : ∀ {lv : List (Nat × Value)} {i : Nat} {v : Value}, zld lv i = some v → (i, v) ∈ lv
  | [], _, _, h => by cases h
  | q :: r, i, v, h => by
    unfold zld at h
    split at h
    · rename_i e
      cases h
      rw [← e]
      exact List.mem_cons_self
    · exact List.mem_cons_of_mem _ (zld_mem h)
theorem zld_at {τ : Nat → Nat} {ls : Array Slot} {nL : Nat} {lv : List (Nat × Value)} {i : Nat} {v : Value} (hl : lv_has ls nL (zlm τ lv)) (h : zld lv i = some v) : ls[i]? = some (.val (zt τ v)) :=
  hl.2.2 (i, zt τ v) (List.mem_map.mpr ⟨(i, v), zld_mem h, rfl⟩)
def zs1 (lv : List (Nat × Value)) (i : Nat) (v : Value) : List (Nat × Value) := (i, v) :: lv.filter (fun q => !(q.1 == i) && !(q.1 + 1 == i && q.2.category == 2))
def zs2 (lv : List (Nat × Value)) (i : Nat) (v : Value) : List (Nat × Value) := (i, v) :: lv.filter (fun q => !(q.1 == i) && (!(q.1 == i + 1) && !(q.1 + 1 == i && q.2.category == 2)))
theorem zlm_filter (τ : Nat → Nat) (f : Nat → Nat → Bool) (lv : List (Nat × Value)) : (zlm τ lv).filter (fun q => f q.1 q.2.category) = zlm τ (lv.filter (fun q => f q.1 q.2.category)) := by
  unfold zlm
  rw [List.filter_map]
  congr 1
  apply List.filter_congr
  intro q _
  show f q.1 (zt τ q.2).category = _
  rw [zt_cat]
theorem zs1_eq (τ : Nat → Nat) (lv : List (Nat × Value)) (i : Nat) (v : Value) : (i, zt τ v) :: (zlm τ lv).filter (fun q => !(q.1 == i) && !(q.1 + 1 == i && q.2.category == 2)) = zlm τ (zs1 lv i v) := by
  unfold zs1
  rw [zlm_filter τ (fun a b => !(a == i) && !(a + 1 == i && b == 2))]
  rfl
theorem zs2_eq (τ : Nat → Nat) (lv : List (Nat × Value)) (i : Nat) (v : Value) : (i, zt τ v) :: (zlm τ lv).filter (fun q => !(q.1 == i) && (!(q.1 == i + 1) && !(q.1 + 1 == i && q.2.category == 2))) = zlm τ (zs2 lv i v) := by
  unfold zs2
  rw [zlm_filter τ (fun a b => !(a == i) && (!(a == i + 1) && !(a + 1 == i && b == 2)))]
  rfl
abbrev zO : Type := Option (Nat × List (Nat × Value) × List Value)
section zPure
variable (pc : Nat) (lv : List (Nat × Value)) (st : List Value)
def z1 (f : Int32 → Value) : zO := match st with
  | .int x :: r => some (pc + 1, lv, f x :: r)
  | _ => none
def z2 (f : Int32 → Int32 → Value) : zO := match st with
  | .int y :: .int x :: r => some (pc + 1, lv, f x y :: r)
  | _ => none
def zl1 (f : Int64 → Value) : zO := match st with
  | .long x :: r => some (pc + 1, lv, f x :: r)
  | _ => none
def zl2 (f : Int64 → Int64 → Value) : zO := match st with
  | .long y :: .long x :: r => some (pc + 1, lv, f x y :: r)
  | _ => none
def zd1 (f : UInt64 → Value) : zO := match st with
  | .double x :: r => some (pc + 1, lv, f x :: r)
  | _ => none
def zd2 (f : UInt64 → UInt64 → Value) : zO := match st with
  | .double y :: .double x :: r => some (pc + 1, lv, f x y :: r)
  | _ => none
def zLI (n i : Nat) : zO := match zld lv i with
  | some (.int x) => some (pc + n, lv, .int x :: st)
  | _ => none
def zLL (n i : Nat) : zO := match zld lv i with
  | some (.long x) => some (pc + n, lv, .long x :: st)
  | _ => none
def zLD (n i : Nat) : zO := match zld lv i with
  | some (.double x) => some (pc + n, lv, .double x :: st)
  | _ => none
def zLA (n i : Nat) : zO := match zld lv i with
  | some (.ref x) => some (pc + n, lv, .ref x :: st)
  | some .null => some (pc + n, lv, .null :: st)
  | _ => none
def zSI (nL n i : Nat) : zO := match st with
  | .int x :: r => if i < nL then some (pc + n, zs1 lv i (.int x), r) else none
  | _ => none
def zSL (nL n i : Nat) : zO := match st with
  | .long x :: r => if i + 1 < nL then some (pc + n, zs2 lv i (.long x), r) else none
  | _ => none
def zSD (nL n i : Nat) : zO := match st with
  | .double x :: r => if i + 1 < nL then some (pc + n, zs2 lv i (.double x), r) else none
  | _ => none
def zSA (nL n i : Nat) : zO := match st with
  | .ref x :: r => if i < nL then some (pc + n, zs1 lv i (.ref x), r) else none
  | .null :: r => if i < nL then some (pc + n, zs1 lv i .null, r) else none
  | _ => none
def zb1 (f : Int32 → Bool) (off : Int) : zO := match st with
  | .int x :: r => if 0 ≤ (pc : Int) + off then some (if f x = true then ((pc : Int) + off).toNat else pc + 3, lv, r) else none
  | _ => none
def zb2 (f : Int32 → Int32 → Bool) (off : Int) : zO := match st with
  | .int y :: .int x :: r => if 0 ≤ (pc : Int) + off then some (if f x y = true then ((pc : Int) + off).toNat else pc + 3, lv, r) else none
  | _ => none
def zgo (off : Int) : zO := if 0 ≤ (pc : Int) + off then some (((pc : Int) + off).toNat, lv, st) else none
def zsw (dflt lo hi : Int) (offs : Array Int) : zO := match st with
  | .int x :: r => if x.toInt < lo ∨ hi < x.toInt then zgo pc lv r dflt else match offs[(x.toInt - lo).toNat]? with
    | some off => zgo pc lv r off
    | none => none
  | _ => none
def zinc (nL i : Nat) (n : Int) : zO := match zld lv i with
  | some (.int x) => if i < nL then some (pc + 3, zs1 lv i (.int (x + Int32.ofInt n)), st) else none
  | _ => none
def zdup : zO := match st with
  | v :: r => if v.category = 1 then some (pc + 1, lv, v :: v :: r) else none
  | _ => none
def zpop : zO := match st with
  | v :: r => if v.category = 1 then some (pc + 1, lv, r) else none
  | _ => none
def zdupx1 : zO := match st with
  | v :: w :: r => if v.category = 1 ∧ w.category = 1 then some (pc + 1, lv, v :: w :: v :: r) else none
  | _ => none
def zdup2 : zO := match st with
  | v :: r => if v.category = 2 then some (pc + 1, lv, v :: v :: r) else match r with
    | w :: r2 => if v.category = 1 ∧ w.category = 1 then some (pc + 1, lv, v :: w :: v :: w :: r2) else none
    | _ => none
  | _ => none
def zpop2 : zO := match st with
  | v :: r => if v.category = 2 then some (pc + 1, lv, r) else match r with
    | w :: r2 => if v.category = 1 ∧ w.category = 1 then some (pc + 1, lv, r2) else none
    | _ => none
  | _ => none
end zPure
/-- the length of an instruction; 0: any -/
def zLen : Instr → Nat
  | .tableswitch _ _ _ _ => 0
  | .bipush _ => 2
  | .iload _ => 2
  | .lload _ => 2
  | .dload _ => 2
  | .aload _ => 2
  | .istore _ => 2
  | .lstore _ => 2
  | .dstore _ => 2
  | .astore _ => 2
  | .ldc _ => 2
  | .newarray _ => 2
  | .sipush _ => 3
  | .ldc_w _ => 3
  | .ldc2_w _ => 3
  | .iinc _ _ => 3
  | .goto _ => 3
  | .ifCond _ _ => 3
  | .if_icmp _ _ => 3
  | .if_acmp _ _ => 3
  | .ifnull _ => 3
  | .ifnonnull _ => 3
  | .getfield _ => 3
  | .putfield _ => 3
  | .getstatic _ => 3
  | .invokevirtual _ => 3
  | .invokespecial _ => 3
  | .invokestatic _ => 3
  | .new _ => 3
  | .anewarray _ => 3
  | .checkcast _ => 3
  | .multianewarray _ _ => 4
  | .invokeinterface _ _ => 5
  | _ => 1
/-- an instruction that neither reads nor writes the heap -/
def zP (nL : Nat) (i : Instr) (pc : Nat) (lv : List (Nat × Value)) (st : List Value) : zO := match i with
  | .iconst n => some (pc + 1, lv, .int (Int32.ofInt n) :: st)
  | .bipush n => some (pc + 2, lv, .int (Int8.ofInt n).toInt32 :: st)
  | .sipush n => some (pc + 3, lv, .int (Int16.ofInt n).toInt32 :: st)
  | .lconst n => some (pc + 1, lv, .long (Int64.ofNat (n : Nat)) :: st)
  | .dconst n => if n = 1 then some (pc + 1, lv, .double FP.dconst1 :: st) else none
  | .aconst_null => some (pc + 1, lv, .null :: st)
  | .iload_n k => zLI pc lv st 1 (k : Nat)
  | .iload k => zLI pc lv st 2 k
  | .lload_n k => zLL pc lv st 1 (k : Nat)
  | .lload k => zLL pc lv st 2 k
  | .dload_n k => zLD pc lv st 1 (k : Nat)
  | .dload k => zLD pc lv st 2 k
  | .aload_n k => zLA pc lv st 1 (k : Nat)
  | .aload k => zLA pc lv st 2 k
  | .istore_n k => zSI pc lv st nL 1 (k : Nat)
  | .istore k => zSI pc lv st nL 2 k
  | .lstore_n k => zSL pc lv st nL 1 (k : Nat)
  | .lstore k => zSL pc lv st nL 2 k
  | .dstore_n k => zSD pc lv st nL 1 (k : Nat)
  | .dstore k => zSD pc lv st nL 2 k
  | .astore_n k => zSA pc lv st nL 1 (k : Nat)
  | .astore k => zSA pc lv st nL 2 k
  | .iinc k n => zinc pc lv st nL k n
  | .iadd => z2 pc lv st (fun x y => .int (x + y))
  | .isub => z2 pc lv st (fun x y => .int (x - y))
  | .imul => z2 pc lv st (fun x y => .int (x * y))
  | .iand => z2 pc lv st (fun x y => .int (x &&& y))
  | .ior => z2 pc lv st (fun x y => .int (x ||| y))
  | .ixor => z2 pc lv st (fun x y => .int (x ^^^ y))
  | .ishl => z2 pc lv st (fun x y => .int (x <<< (y &&& 31)))
  | .ishr => z2 pc lv st (fun x y => .int (x >>> (y &&& 31)))
  | .iushr => z2 pc lv st (fun x y => .int (x.toUInt32 >>> (y.toUInt32 &&& Int32.toUInt32 31)).toInt32)
  | .idiv => match st with
    | .int y :: _ => if y = 0 then none else z2 pc lv st (fun x y => .int (x / y))
    | _ => none
  | .irem => match st with
    | .int y :: _ => if y = 0 then none else z2 pc lv st (fun x y => .int (x - x / y * y))
    | _ => none
  | .ineg => z1 pc lv st (fun x => .int (-x))
  | .i2l => z1 pc lv st (fun x => .long x.toInt64)
  | .i2b => z1 pc lv st (fun x => .int x.toInt8.toInt32)
  | .i2c => z1 pc lv st (fun x => .int (x.toUInt32 % 65536).toInt32)
  | .i2d => z1 pc lv st (fun x => .double (FP.i2d x))
  | .ladd => zl2 pc lv st (fun x y => .long (x + y))
  | .lmul => zl2 pc lv st (fun x y => .long (x * y))
  | .lcmp => zl2 pc lv st (fun x y => .int (lg_cmp x y))
  | .d2l => zd1 pc lv st (fun x => .long (FP.d2l x))
  | .dcmp op => zd2 pc lv st (fun x y => .int (Op.cmpValue (FP.dcmp x y) op))
  | .ifCond .eq off => zb1 pc lv st (fun x => decide (x = 0)) off
  | .ifCond .ne off => zb1 pc lv st (fun x => decide (¬ x = 0)) off
  | .ifCond .lt off => zb1 pc lv st (fun x => decide (x < 0)) off
  | .ifCond .ge off => zb1 pc lv st (fun x => decide (0 ≤ x)) off
  | .ifCond .gt off => zb1 pc lv st (fun x => decide (0 < x)) off
  | .ifCond .le off => zb1 pc lv st (fun x => decide (x ≤ 0)) off
  | .if_icmp .eq off => zb2 pc lv st (fun x y => decide (x = y)) off
  | .if_icmp .ne off => zb2 pc lv st (fun x y => decide (¬ x = y)) off
  | .if_icmp .lt off => zb2 pc lv st (fun x y => decide (x < y)) off
  | .if_icmp .ge off => zb2 pc lv st (fun x y => decide (y ≤ x)) off
  | .if_icmp .gt off => zb2 pc lv st (fun x y => decide (y < x)) off
  | .if_icmp .le off => zb2 pc lv st (fun x y => decide (x ≤ y)) off
  | .goto off => zgo pc lv st off
  | .tableswitch d lo hi offs => zsw pc lv st d lo hi offs
  | .dup => zdup pc lv st
  | .pop => zpop pc lv st
  | .dup_x1 => zdupx1 pc lv st
  | .dup2 => zdup2 pc lv st
  | .pop2 => zpop2 pc lv st
  | _ => none
end
section
/-! ===== the words of the tables, and of each class its fields ===== -/
def zTyF : List (Nat → FieldType) := [tyJ0, tyJ4, tyJx4a65c, tyX0, tyX1, tyX2, tyX3, tyX4, tyX5, tyX6, tyX7, tyX8, tyX9, tyX10, tyX11, tyX12, tyX13, tyX14, tyX15]
def zFT (a k : Nat) : FieldType := (zTyF.getD a (fun _ => .int)) k
def zT : List Cond := lw_tbl.filter goodWord
theorem zT_of {w : Cond} (h : w ∈ lw_tbl ∧ ((w.onTables && w.keeps) = true ∨ ∃ ty, w = .arrayClass ty)) : w ∈ zT := by
  refine List.mem_filter.mpr ⟨h.1, ?_⟩
  rcases h.2 with q | ⟨ty, rfl⟩
  · cases w <;> first | rfl | exact q
  · rfl
theorem zT_tbl {w : Cond} (h : w ∈ zT) : w ∈ lw_tbl := (List.mem_filter.mp h).1
theorem zT_good : zT.all goodWord = true := List.all_eq_true.mpr fun _ h => (List.mem_filter.mp h).2
theorem zIn_0 : ∀ w ∈ u_ws RJ0 TJ0 4, w ∈ zT := fun w h => zT_of (goodIn_r (big := lw_tbl) (u_ws RJ0 TJ0 4) [1421, 1423, 1425, 1427] (by decide +kernel) (by decide +kernel) w h)
theorem zIn_1 : ∀ w ∈ u_ws RJ4 TJ4 4, w ∈ zT := fun w h => zT_of (goodIn_r (big := lw_tbl) (u_ws RJ4 TJ4 4) [1184, 1186, 1188, 1190] (by decide +kernel) (by decide +kernel) w h)
theorem zIn_2 : ∀ w ∈ u_ws RJx4a65c TJx4a65c 3, w ∈ zT := fun w h => zT_of (goodIn_r (big := lw_tbl) (u_ws RJx4a65c TJx4a65c 3) [1482, 1478, 1480] (by decide +kernel) (by decide +kernel) w h)
theorem zIn_3 : ∀ w ∈ u_ws RX0 TX0 6, w ∈ zT := fun w h => zT_of (goodIn_r (big := lw_tbl) (u_ws RX0 TX0 6) [287, 289, 291, 293, 295, 297] (by decide +kernel) (by decide +kernel) w h)
theorem zIn_4 : ∀ w ∈ u_ws RX1 TX1 11, w ∈ zT := fun w h => zT_of (goodIn_r (big := lw_tbl) (u_ws RX1 TX1 11) [245, 247, 249, 251, 253, 255, 257, 259, 261, 263, 265] (by decide +kernel) (by decide +kernel) w h)
theorem zIn_5 : ∀ w ∈ u_ws RX2 TX2 5, w ∈ zT := fun w h => zT_of (goodIn_r (big := lw_tbl) (u_ws RX2 TX2 5) [309, 311, 313, 315, 317] (by decide +kernel) (by decide +kernel) w h)
theorem zIn_6 : ∀ w ∈ u_ws RX3 TX3 3, w ∈ zT := fun w h => zT_of (goodIn_r (big := lw_tbl) (u_ws RX3 TX3 3) [187, 189, 191] (by decide +kernel) (by decide +kernel) w h)
theorem zIn_7 : ∀ w ∈ u_ws RX4 TX4 9, w ∈ zT := fun w h => zT_of (goodIn_r (big := lw_tbl) (u_ws RX4 TX4 9) [420, 422, 424, 426, 428, 430, 432, 434, 436] (by decide +kernel) (by decide +kernel) w h)
theorem zIn_8 : ∀ w ∈ u_ws RX5 TX5 3, w ∈ zT := fun w h => zT_of (goodIn_r (big := lw_tbl) (u_ws RX5 TX5 3) [369, 371, 373] (by decide +kernel) (by decide +kernel) w h)
theorem zIn_9 : ∀ w ∈ u_ws RX6 TX6 4, w ∈ zT := fun w h => zT_of (goodIn_r (big := lw_tbl) (u_ws RX6 TX6 4) [344, 346, 348, 350] (by decide +kernel) (by decide +kernel) w h)
theorem zIn_10 : ∀ w ∈ u_ws RX7 TX7 5, w ∈ zT := fun w h => zT_of (goodIn_r (big := lw_tbl) (u_ws RX7 TX7 5) [446, 448, 450, 452, 454] (by decide +kernel) (by decide +kernel) w h)
theorem zIn_11 : ∀ w ∈ u_ws RX8 TX8 1, w ∈ zT := fun w h => zT_of (goodIn_r (big := lw_tbl) (u_ws RX8 TX8 1) [355] (by decide +kernel) (by decide +kernel) w h)
theorem zIn_12 : ∀ w ∈ u_ws RX9 TX9 11, w ∈ zT := fun w h => zT_of (goodIn_r (big := lw_tbl) (u_ws RX9 TX9 11) [157, 159, 161, 163, 165, 167, 169, 171, 173, 175, 177] (by decide +kernel) (by decide +kernel) w h)
theorem zIn_13 : ∀ w ∈ u_ws RX10 TX10 14, w ∈ zT := fun w h => zT_of (goodIn_r (big := lw_tbl) (u_ws RX10 TX10 14) [472, 474, 476, 478, 480, 482, 484, 486, 488, 490, 492, 494, 496, 498] (by decide +kernel) (by decide +kernel) w h)
theorem zIn_14 : ∀ w ∈ u_ws RX11 TX11 2, w ∈ zT := fun w h => zT_of (goodIn_r (big := lw_tbl) (u_ws RX11 TX11 2) [825, 827] (by decide +kernel) (by decide +kernel) w h)
theorem zIn_15 : ∀ w ∈ u_ws RX12 TX12 12, w ∈ zT := fun w h => zT_of (goodIn_r (big := lw_tbl) (u_ws RX12 TX12 12) [1818, 1820, 1822, 1824, 1826, 1828, 1830, 1832, 1834, 1836, 1838, 1840] (by decide +kernel) (by decide +kernel) w h)
theorem zIn_16 : ∀ w ∈ u_ws RX13 TX13 9, w ∈ zT := fun w h => zT_of (goodIn_r (big := lw_tbl) (u_ws RX13 TX13 9) [1752, 1754, 1756, 1758, 1760, 1762, 1764, 1766, 1768] (by decide +kernel) (by decide +kernel) w h)
theorem zIn_17 : ∀ w ∈ u_ws RX14 TX14 10, w ∈ zT := fun w h => zT_of (goodIn_r (big := lw_tbl) (u_ws RX14 TX14 10) [1600, 1602, 1604, 1606, 1608, 1610, 1612, 1614, 1616, 1618] (by decide +kernel) (by decide +kernel) w h)
theorem zIn_18 : ∀ w ∈ u_ws RX15 TX15 18, w ∈ zT := fun w h => zT_of (goodIn_r (big := lw_tbl) (u_ws RX15 TX15 18) [1504, 1506, 1508, 1510, 1512, 1514, 1516, 1518, 1520, 1522, 1524, 1526, 1528, 1530, 1532, 1534, 1536, 1538] (by decide +kernel) (by decide +kernel) w h)
theorem zIn : ∀ (a : Nat) (r : vw_C), vwCl[a]? = some r → ∀ w ∈ u_ws r.1 r.2.1 r.2.2, w ∈ zT
  | 0, _, h => by cases h; exact zIn_0
  | 1, _, h => by cases h; exact zIn_1
  | 2, _, h => by cases h; exact zIn_2
  | 3, _, h => by cases h; exact zIn_3
  | 4, _, h => by cases h; exact zIn_4
  | 5, _, h => by cases h; exact zIn_5
  | 6, _, h => by cases h; exact zIn_6
  | 7, _, h => by cases h; exact zIn_7
  | 8, _, h => by cases h; exact zIn_8
  | 9, _, h => by cases h; exact zIn_9
  | 10, _, h => by cases h; exact zIn_10
  | 11, _, h => by cases h; exact zIn_11
  | 12, _, h => by cases h; exact zIn_12
  | 13, _, h => by cases h; exact zIn_13
  | 14, _, h => by cases h; exact zIn_14
  | 15, _, h => by cases h; exact zIn_15
  | 16, _, h => by cases h; exact zIn_16
  | 17, _, h => by cases h; exact zIn_17
  | 18, _, h => by cases h; exact zIn_18
  | n + 19, _, h => by simp [vwCl] at h
theorem zTyOk : ∀ (a : Nat) (r : vw_C), vwCl[a]? = some r → ∀ k, k < r.2.2 → parseFieldDescriptor (r.2.1 k).2.2.1 = some (zFT a k)
  | 0, _, h => by cases h; exact tyJ0_ok
  | 1, _, h => by cases h; exact tyJ4_ok
  | 2, _, h => by cases h; exact tyJx4a65c_ok
  | 3, _, h => by cases h; exact tyX0_ok
  | 4, _, h => by cases h; exact tyX1_ok
  | 5, _, h => by cases h; exact tyX2_ok
  | 6, _, h => by cases h; exact tyX3_ok
  | 7, _, h => by cases h; exact tyX4_ok
  | 8, _, h => by cases h; exact tyX5_ok
  | 9, _, h => by cases h; exact tyX6_ok
  | 10, _, h => by cases h; exact tyX7_ok
  | 11, _, h => by cases h; exact tyX8_ok
  | 12, _, h => by cases h; exact tyX9_ok
  | 13, _, h => by cases h; exact tyX10_ok
  | 14, _, h => by cases h; exact tyX11_ok
  | 15, _, h => by cases h; exact tyX12_ok
  | 16, _, h => by cases h; exact tyX13_ok
  | 17, _, h => by cases h; exact tyX14_ok
  | 18, _, h => by cases h; exact tyX15_ok
  | n + 19, _, h => by simp [vwCl] at h
theorem zNap : ∀ (a : Nat) (r : vw_C), vwCl[a]? = some r → ∀ a, a < r.2.2 → ∀ b, b < r.2.2 → a ≠ b → (r.2.1 a).2.1 ≠ (r.2.1 b).2.1
  | 0, _, h => by cases h; exact nmJ0
  | 1, _, h => by cases h; exact nmJ4
  | 2, _, h => by cases h; exact nmJx4a65c
  | 3, _, h => by cases h; exact nmX0
  | 4, _, h => by cases h; exact nmX1
  | 5, _, h => by cases h; exact nmX2
  | 6, _, h => by cases h; exact nmX3
  | 7, _, h => by cases h; exact nmX4
  | 8, _, h => by cases h; exact nmX5
  | 9, _, h => by cases h; exact nmX6
  | 10, _, h => by cases h; exact nmX7
  | 11, _, h => by cases h; exact nmX8
  | 12, _, h => by cases h; exact nmX9
  | 13, _, h => by cases h; exact nmX10
  | 14, _, h => by cases h; exact nmX11
  | 15, _, h => by cases h; exact nmX12
  | 16, _, h => by cases h; exact nmX13
  | 17, _, h => by cases h; exact nmX14
  | 18, _, h => by cases h; exact nmX15
  | n + 19, _, h => by simp [vwCl] at h
end
section
/-! ===== the small machine: the words that its rows need, and what is checked of them ===== -/
/-- the first places are cells of the start (read, never written) -/
def zro : Nat := 16
def zCM : Nat := 600000
def zSM : Nat := 7300000
def zF (a k : Nat) : String × String × String × Bool := match vwCl[a]? with
  | some r => r.2.1 k
  | none => ("", "", "", false)
def zNm (a : Nat) : String := match vwCl[a]? with
  | some r => r.1
  | none => ""
def zLw : String := "OnecodeChanceryLaw"
/-- the words that such an instruction needs -/
def zNg (own : String) (i : Instr) (a b : Nat) : List Cond := match i with
  | .getfield x => if b < 1000 then [.fieldLink own x (zF a b).1 (zF a b).2.1 (zF a b).2.2.1] else [.fieldLinkNest own x (zF a (b % 1000)).1 (zF a (b % 1000)).2.1 (zF a (b % 1000)).2.2.1 zLw]
  | .putfield x => if b < 1000 then [.fieldLink own x (zF a b).1 (zF a b).2.1 (zF a b).2.2.1] else [.fieldLinkNest own x (zF a (b % 1000)).1 (zF a (b % 1000)).2.1 (zF a (b % 1000)).2.2.1 zLw]
  | .checkcast x => [.classLink own x (zNm a)]
  | _ => []
def zCn (a : Nat) : Nat := match vwCl[a]? with
  | some r => r.2.2
  | none => 0
def zOb (a : Nat) : String := match zTy a with
  | .object C => C
  | _ => ""
def zNk (own : String) (i : Instr) (a : Nat) : List Cond := match i with
  | .new x => [.classLink own x (zNm a), .instantiable (zNm a) (zCn a), .initialized (zNm a)]
  | .newarray t => [.arrayClass (newarray.typeOf t)]
  | .anewarray x => [.classLink own x (zOb a), .arrayOver (.object (zOb a))]
  | .multianewarray x _ => [.classLink own x "[[I", .arrayOver (.array .int), .arrayClass .int]
  | _ => []
/-- a method: name, bytes, locals, what it returns, its table (from, to, target, class entry, the exception's number), how many parameters (this counted) -/
abbrev zI : Type := MethodName × ByteArray × Nat × Option FieldType × List (Nat × Nat × Nat × Nat × Nat) × Nat
abbrev zYn (x : zI) : MethodName := x.1
abbrev zBy (x : zI) : ByteArray := x.2.1
abbrev zMl (x : zI) : Nat := x.2.2.1
abbrev zRe (x : zI) : Option FieldType := x.2.2.2.1
abbrev zTb (x : zI) : List (Nat × Nat × Nat × Nat × Nat) := x.2.2.2.2.1
abbrev zNp (x : zI) : Nat := x.2.2.2.2.2
def zHh (x : zI) : List (Nat × Nat × Nat × Nat) := (zTb x).map (fun r => (r.1, r.2.1, r.2.2.1, r.2.2.2.1))
def zEx : Nat → String
  | 0 => "java/lang/IndexOutOfBoundsException"
  | 1 => "java/lang/IllegalArgumentException"
  | _ => "java/lang/IllegalStateException"
abbrev zRow : Type := Nat → Nat → Option (Instr × Nat × Nat)
/-- 0 pure, 1 heap, 2 makes, 3 call, 4 return, 5 throws, 6 Object's constructor, 7 constant -/
def zKd (i : Instr) (a b : Nat) : Nat := match i with
  | .getfield _ => 1
  | .putfield _ => 1
  | .arraylength => 1
  | .iaload => 1
  | .baload => 1
  | .aaload => 1
  | .iastore => 1
  | .bastore => 1
  | .aastore => 1
  | .checkcast _ => 1
  | .new _ => if a < 1000 then 2 else 5
  | .newarray _ => 2
  | .anewarray _ => 2
  | .multianewarray _ _ => 2
  | .invokestatic _ => 3
  | .invokevirtual _ => 3
  | .invokespecial _ => if b = 6 then 6 else 3
  | .invokeinterface _ _ => 3
  | .ireturn => 4
  | .lreturn => 4
  | .dreturn => 4
  | .areturn => 4
  | .return_ => 4
  | .ldc _ => 7
  | .ldc_w _ => 7
  | .ldc2_w _ => 7
  | .getstatic _ => 7
  | _ => 0
def zxw : Cond → Bool
  | .fieldLinkNest _ _ _ _ _ _ => true
  | .methodLinkNest _ _ _ _ => true
  | .castable _ _ => true
  | .arrayOver _ => true
  | .declares _ => true
  | .publicMethod _ => true
  | .privateMethod _ => true
  | .unhidden _ _ _ => true
  | _ => false
def zCh : String := "OnecodeChancery"
def zLi (n d : String) : MethodName := ⟨"java/util/List", n, d⟩
def zAr (n d : String) : MethodName := ⟨"java/util/ArrayList", n, d⟩
def zIm : List (String × String) := [("size", "()I"), ("add", "(Ljava/lang/Object;)Z"), ("get", "(I)Ljava/lang/Object;"), ("set", "(ILjava/lang/Object;)Ljava/lang/Object;")]
def zCw (x : zI) : Cond := if (zTb x).isEmpty then .code (zYn x) (zBy x) (zMl x) (zRe x) else .codeWith (zYn x) (zBy x) (zMl x) (zRe x) (zHh x)
def zWd (w : Cond) : Prop := w ∈ zT ∨ (w ∈ lw_tbl ∧ zxw w = true)
def zHost (own : String) : String := if own = zLw then zLw else if own = "OnecodeChanceryModel" ∨ own = "OnecodeChanceryModel$Rule" ∨ own = "OnecodeChanceryModel$Article" ∨ own = "OnecodeChanceryModel$Case" then "OnecodeChanceryModel" else zCh
def zNc (zi : Nat → zI) (j : Nat) (i : Instr) (a b : Nat) : List Cond := match i with
  | .invokestatic x => [zCw (zi a), .initialized (zYn (zi a)).cls, .static (zYn (zi a)), if b % 10 = 1 then .methodLinkNest (zYn (zi j)).cls x (zYn (zi a)) (zHost (zYn (zi j)).cls) else .methodLink (zYn (zi j)).cls x (zYn (zi a))]
  | .invokevirtual x => [zCw (zi a), .initialized (zYn (zi a)).cls, .instanceMethod (zYn (zi a)), .selects (zNm (b / 10 - 1)) (zYn (zi a)) (zYn (zi a)), .methodLink (zYn (zi j)).cls x (zYn (zi a))]
  | .invokespecial x => [zCw (zi a), .initialized (zYn (zi a)).cls, .instanceMethod (zYn (zi a)), if b % 10 = 1 then .methodLinkNest (zYn (zi j)).cls x (zYn (zi a)) (zHost (zYn (zi j)).cls) else .methodLink (zYn (zi j)).cls x (zYn (zi a))]
  | .invokeinterface x _ => [zCw (zi a), .initialized "java/util/ArrayList", .instanceMethod (zYn (zi a)), .selects "java/util/ArrayList" (zLi (zYn (zi a)).name (zYn (zi a)).desc) (zYn (zi a)), .methodLink (zYn (zi j)).cls x (zLi (zYn (zi a)).name (zYn (zi a)).desc)]
  | _ => []
def zNo7 (own : String) (i : Instr) (a b : Nat) : List Cond := match i with
  | .ldc x => if b = 0 then [.constant own x (Int32.ofNat a)] else []
  | .ldc_w x => if b = 0 then [.constant own x (Int32.ofNat a)] else []
  | .ldc2_w x => if b = 1 then [.constantLong own x (Int64.ofNat a)] else if b = 2 then [.constantDouble own x (UInt64.ofNat a)] else []
  | _ => []
def zNd (zi : Nat → zI) (j : Nat) (i : Instr) (a b : Nat) : List Cond := match zKd i a b with
  | 1 => zNg (zYn (zi j)).cls i a b
  | 2 => zNk (zYn (zi j)).cls i a
  | 3 => zNc zi j i a b
  | 6 => match i with
    | .invokespecial x => [.methodLink (zYn (zi j)).cls x objectInit]
    | _ => []
  | 7 => zNo7 (zYn (zi j)).cls i a b
  | _ => []
def zNoHb (C : String) : Bool := decide (C ≠ "java/lang/invoke/MethodHandle") && decide (C ≠ "java/lang/invoke/VarHandle")
def zParb (x : zI) (n : Nat) : Bool := decide ((parseMethodDescriptor (zYn x).desc).map (fun d => d.parameters.length) = some n)
def zShp6 (i : Instr) : Bool := match i with
  | .invokespecial _ => true
  | _ => false
def zShp7 (i : Instr) (b : Nat) : Bool := match i with
  | .ldc _ => b == 0
  | .ldc_w _ => b == 0
  | .ldc2_w _ => b == 1 || b == 2
  | _ => false
/-- what is not a word -/
def zShp (zi : Nat → zI) (j : Nat) (i : Instr) (a b : Nat) : Bool := match zKd i a b with
  | 0 => true
  | 1 => match i with
    | .putfield _ => !(zF a (b % 1000)).2.2.2 || (decide ((zYn (zi j)).name = "<init>") && decide ((zF a (b % 1000)).1 = (zYn (zi j)).cls) && decide (b < 1000))
    | _ => true
  | 2 => true
  | 3 => zNoHb (zYn (zi a)).cls && match i with
    | .invokestatic _ => zParb (zi a) (zNp (zi a)) && ((b % 10 == 2) == !(zTb (zi a)).isEmpty)
    | .invokevirtual _ => decide (b / 10 ≠ 0) && (zTb (zi a)).isEmpty && zParb (zi a) (zNp (zi a) - 1) && decide (0 < zNp (zi a))
    | .invokespecial _ => decide (b / 10 ≠ 0) && (zTb (zi a)).isEmpty && zParb (zi a) (zNp (zi a) - 1) && decide (0 < zNp (zi a)) && decide ((zYn (zi a)).name = "<init>") && (zRe (zi a)).isNone
    | .invokeinterface _ _ => decide (b / 10 = 3) && (zTb (zi a)).isEmpty && zParb (zi a) (zNp (zi a) - 1) && decide (0 < zNp (zi a)) && decide ((zYn (zi a)).cls = "java/util/ArrayList") && decide (((zYn (zi a)).name, (zYn (zi a)).desc) ∈ zIm)
    | _ => false
  | 4 => true
  | 6 => zShp6 i
  | 7 => zShp7 i b
  | _ => false
def zDcd (bytes : ByteArray) (pc : Nat) (i : Instr) : Bool := match decode bytes pc with
  | .ok (i2, n) => decide (i2 = i) && (zLen i == 0 || n == zLen i)
  | .error _ => false
end
section
/-! ===== the small machine: each such instruction is the machine's ===== -/
theorem zld_ix {τ : Nat → Nat} {lv : List (Nat × Value)} {i : Nat} {v : Value} (h : zld lv i = some v) : ∃ j : Nat, (zlm τ lv)[j]? = some (i, zt τ v) :=
  List.getElem?_of_mem (List.mem_map.mpr ⟨(i, v), zld_mem h, rfl⟩)
section zGo
variable {Ω : JFrame → Prop} {m : MethodId} {τ : Nat → Nat} {pc pc' nL : Nat} {lv lv' : List (Nat × Value)} {st st' : List Value} {ls : Array Slot}
theorem z1_go {f : Int32 → Value} (row : ∀ x rest, Ω (F0 m (pc + 1) ls (f x :: rest)) → Ω (F0 m pc ls (.int x :: rest))) (hz : ∀ x, zt τ (f x) = f x) (h : z1 pc lv st f = some (pc', lv', st')) (hl : lv_has ls nL (zlm τ lv))
    (k : ∀ ls', lv_has ls' nL (zlm τ lv') → Ω (F0 m pc' ls' (st'.map (zt τ)))) : Ω (F0 m pc ls (st.map (zt τ))) := by
  unfold z1 at h
  split at h
  · cases h
    refine row _ _ ?_
    have q := k ls hl
    rw [List.map_cons, hz] at q
    exact q
  · cases h
theorem z2_go {f : Int32 → Int32 → Value} (row : ∀ x y rest, Ω (F0 m (pc + 1) ls (f x y :: rest)) → Ω (F0 m pc ls (.int y :: .int x :: rest))) (hz : ∀ x y, zt τ (f x y) = f x y) (h : z2 pc lv st f = some (pc', lv', st')) (hl : lv_has ls nL (zlm τ lv))
    (k : ∀ ls', lv_has ls' nL (zlm τ lv') → Ω (F0 m pc' ls' (st'.map (zt τ)))) : Ω (F0 m pc ls (st.map (zt τ))) := by
  unfold z2 at h
  split at h
  · cases h
    refine row _ _ _ ?_
    have q := k ls hl
    rw [List.map_cons, hz] at q
    exact q
  · cases h
theorem zl1_go {f : Int64 → Value} (row : ∀ x rest, Ω (F0 m (pc + 1) ls (f x :: rest)) → Ω (F0 m pc ls (.long x :: rest))) (hz : ∀ x, zt τ (f x) = f x) (h : zl1 pc lv st f = some (pc', lv', st')) (hl : lv_has ls nL (zlm τ lv))
    (k : ∀ ls', lv_has ls' nL (zlm τ lv') → Ω (F0 m pc' ls' (st'.map (zt τ)))) : Ω (F0 m pc ls (st.map (zt τ))) := by
  unfold zl1 at h
  split at h
  · cases h
    refine row _ _ ?_
    have q := k ls hl
    rw [List.map_cons, hz] at q
    exact q
  · cases h
theorem zl2_go {f : Int64 → Int64 → Value} (row : ∀ x y rest, Ω (F0 m (pc + 1) ls (f x y :: rest)) → Ω (F0 m pc ls (.long y :: .long x :: rest))) (hz : ∀ x y, zt τ (f x y) = f x y) (h : zl2 pc lv st f = some (pc', lv', st')) (hl : lv_has ls nL (zlm τ lv))
    (k : ∀ ls', lv_has ls' nL (zlm τ lv') → Ω (F0 m pc' ls' (st'.map (zt τ)))) : Ω (F0 m pc ls (st.map (zt τ))) := by
  unfold zl2 at h
  split at h
  · cases h
    refine row _ _ _ ?_
    have q := k ls hl
    rw [List.map_cons, hz] at q
    exact q
  · cases h
theorem zd1_go {f : UInt64 → Value} (row : ∀ x rest, Ω (F0 m (pc + 1) ls (f x :: rest)) → Ω (F0 m pc ls (.double x :: rest))) (hz : ∀ x, zt τ (f x) = f x) (h : zd1 pc lv st f = some (pc', lv', st')) (hl : lv_has ls nL (zlm τ lv))
    (k : ∀ ls', lv_has ls' nL (zlm τ lv') → Ω (F0 m pc' ls' (st'.map (zt τ)))) : Ω (F0 m pc ls (st.map (zt τ))) := by
  unfold zd1 at h
  split at h
  · cases h
    refine row _ _ ?_
    have q := k ls hl
    rw [List.map_cons, hz] at q
    exact q
  · cases h
theorem zd2_go {f : UInt64 → UInt64 → Value} (row : ∀ x y rest, Ω (F0 m (pc + 1) ls (f x y :: rest)) → Ω (F0 m pc ls (.double y :: .double x :: rest))) (hz : ∀ x y, zt τ (f x y) = f x y) (h : zd2 pc lv st f = some (pc', lv', st')) (hl : lv_has ls nL (zlm τ lv))
    (k : ∀ ls', lv_has ls' nL (zlm τ lv') → Ω (F0 m pc' ls' (st'.map (zt τ)))) : Ω (F0 m pc ls (st.map (zt τ))) := by
  unfold zd2 at h
  split at h
  · cases h
    refine row _ _ _ ?_
    have q := k ls hl
    rw [List.map_cons, hz] at q
    exact q
  · cases h
theorem zb1_go {f : Int32 → Bool} {off : Int} (row : ∀ x rest (tgt : Nat), (pc : Int) + off = (tgt : Int) → (f x = true → Ω (F0 m tgt ls rest)) → (¬ f x = true → Ω (F0 m (pc + 3) ls rest)) → Ω (F0 m pc ls (.int x :: rest))) (h : zb1 pc lv st f off = some (pc', lv', st')) (hl : lv_has ls nL (zlm τ lv))
    (k : ∀ ls', lv_has ls' nL (zlm τ lv') → Ω (F0 m pc' ls' (st'.map (zt τ)))) : Ω (F0 m pc ls (st.map (zt τ))) := by
  unfold zb1 at h
  split at h
  · split at h
    · rename_i h0
      cases h
      refine row _ _ _ (Int.toNat_of_nonneg h0).symm (fun q => ?_) (fun q => ?_)
      · have z := k ls hl
        rw [if_pos q] at z
        exact z
      · have z := k ls hl
        rw [if_neg q] at z
        exact z
    · cases h
  · cases h
theorem zb2_go {f : Int32 → Int32 → Bool} {off : Int} (row : ∀ x y rest (tgt : Nat), (pc : Int) + off = (tgt : Int) → (f x y = true → Ω (F0 m tgt ls rest)) → (¬ f x y = true → Ω (F0 m (pc + 3) ls rest)) → Ω (F0 m pc ls (.int y :: .int x :: rest))) (h : zb2 pc lv st f off = some (pc', lv', st')) (hl : lv_has ls nL (zlm τ lv))
    (k : ∀ ls', lv_has ls' nL (zlm τ lv') → Ω (F0 m pc' ls' (st'.map (zt τ)))) : Ω (F0 m pc ls (st.map (zt τ))) := by
  unfold zb2 at h
  split at h
  · split at h
    · rename_i h0
      cases h
      refine row _ _ _ _ (Int.toNat_of_nonneg h0).symm (fun q => ?_) (fun q => ?_)
      · have z := k ls hl
        rw [if_pos q] at z
        exact z
      · have z := k ls hl
        rw [if_neg q] at z
        exact z
    · cases h
  · cases h
theorem zgo_go {off : Int} (row : ∀ rest (tgt : Nat), (pc : Int) + off = (tgt : Int) → Ω (F0 m tgt ls rest) → Ω (F0 m pc ls rest)) (h : zgo pc lv st off = some (pc', lv', st')) (hl : lv_has ls nL (zlm τ lv))
    (k : ∀ ls', lv_has ls' nL (zlm τ lv') → Ω (F0 m pc' ls' (st'.map (zt τ)))) : Ω (F0 m pc ls (st.map (zt τ))) := by
  unfold zgo at h
  split at h
  · rename_i h0
    cases h
    exact row _ _ (Int.toNat_of_nonneg h0).symm (k ls hl)
  · cases h
theorem zsw_go {d lo hi : Int} {offs : Array Int} (out : ∀ (x : Int32) rest (tgt : Nat), (x.toInt < lo ∨ hi < x.toInt) → (pc : Int) + d = (tgt : Int) → Ω (F0 m tgt ls rest) → Ω (F0 m pc ls (.int x :: rest)))
    (inn : ∀ (x : Int32) rest (off : Int) (tgt : Nat), ¬ x.toInt < lo → ¬ hi < x.toInt → offs[(x.toInt - lo).toNat]? = some off → (pc : Int) + off = (tgt : Int) → Ω (F0 m tgt ls rest) → Ω (F0 m pc ls (.int x :: rest))) (h : zsw pc lv st d lo hi offs = some (pc', lv', st')) (hl : lv_has ls nL (zlm τ lv))
    (k : ∀ ls', lv_has ls' nL (zlm τ lv') → Ω (F0 m pc' ls' (st'.map (zt τ)))) : Ω (F0 m pc ls (st.map (zt τ))) := by
  unfold zsw at h
  split at h
  · rename_i x r
    split at h
    · rename_i hc
      unfold zgo at h
      split at h
      · rename_i h0
        cases h
        exact out _ _ _ hc (Int.toNat_of_nonneg h0).symm (k ls hl)
      · cases h
    · rename_i hc
      split at h
      · rename_i off ho
        unfold zgo at h
        split at h
        · rename_i h0
          cases h
          exact inn _ _ _ _ (fun q => hc (Or.inl q)) (fun q => hc (Or.inr q)) ho (Int.toNat_of_nonneg h0).symm (k ls hl)
        · cases h
      · cases h
  · cases h
theorem zLI_go {n i : Nat} (row : ∀ x rest, ls[i]? = some (.val (.int x)) → Ω (F0 m (pc + n) ls (.int x :: rest)) → Ω (F0 m pc ls rest)) (h : zLI pc lv st n i = some (pc', lv', st')) (hl : lv_has ls nL (zlm τ lv))
    (k : ∀ ls', lv_has ls' nL (zlm τ lv') → Ω (F0 m pc' ls' (st'.map (zt τ)))) : Ω (F0 m pc ls (st.map (zt τ))) := by
  unfold zLI at h
  split at h
  · rename_i e
    cases h
    exact row _ _ (zld_at hl e) (k ls hl)
  · cases h
theorem zLL_go {n i : Nat} (row : ∀ x rest, ls[i]? = some (.val (.long x)) → Ω (F0 m (pc + n) ls (.long x :: rest)) → Ω (F0 m pc ls rest)) (h : zLL pc lv st n i = some (pc', lv', st')) (hl : lv_has ls nL (zlm τ lv))
    (k : ∀ ls', lv_has ls' nL (zlm τ lv') → Ω (F0 m pc' ls' (st'.map (zt τ)))) : Ω (F0 m pc ls (st.map (zt τ))) := by
  unfold zLL at h
  split at h
  · rename_i e
    cases h
    exact row _ _ (zld_at hl e) (k ls hl)
  · cases h
theorem zLD_go {n i : Nat} (row : ∀ x rest, ls[i]? = some (.val (.double x)) → Ω (F0 m (pc + n) ls (.double x :: rest)) → Ω (F0 m pc ls rest)) (h : zLD pc lv st n i = some (pc', lv', st')) (hl : lv_has ls nL (zlm τ lv))
    (k : ∀ ls', lv_has ls' nL (zlm τ lv') → Ω (F0 m pc' ls' (st'.map (zt τ)))) : Ω (F0 m pc ls (st.map (zt τ))) := by
  unfold zLD at h
  split at h
  · rename_i e
    cases h
    exact row _ _ (zld_at hl e) (k ls hl)
  · cases h
theorem zLA_go {n i : Nat} (row : ∀ x rest, ls[i]? = some (.val (.ref x)) → Ω (F0 m (pc + n) ls (.ref x :: rest)) → Ω (F0 m pc ls rest)) (rowN : ∀ rest, ls[i]? = some (.val .null) → Ω (F0 m (pc + n) ls (.null :: rest)) → Ω (F0 m pc ls rest)) (h : zLA pc lv st n i = some (pc', lv', st')) (hl : lv_has ls nL (zlm τ lv))
    (k : ∀ ls', lv_has ls' nL (zlm τ lv') → Ω (F0 m pc' ls' (st'.map (zt τ)))) : Ω (F0 m pc ls (st.map (zt τ))) := by
  unfold zLA at h
  split at h
  · rename_i e
    cases h
    exact row _ _ (zld_at hl e) (k ls hl)
  · rename_i e
    cases h
    exact rowN _ (zld_at hl e) (k ls hl)
  · cases h
theorem zSI_go {n i : Nat} (row : ∀ x rest (l1 l2 : List (Nat × Value)), lv_has ls nL l1 → i < nL → (i, Value.int x) :: l1.filter (fun q => !(q.1 == i) && !(q.1 + 1 == i && q.2.category == 2)) = l2 → (∀ ls' : Array Slot, lv_has ls' nL l2 → Ω (F0 m (pc + n) ls' rest)) → Ω (F0 m pc ls (.int x :: rest))) (h : zSI pc lv st nL n i = some (pc', lv', st')) (hl : lv_has ls nL (zlm τ lv))
    (k : ∀ ls', lv_has ls' nL (zlm τ lv') → Ω (F0 m pc' ls' (st'.map (zt τ)))) : Ω (F0 m pc ls (st.map (zt τ))) := by
  unfold zSI at h
  split at h
  · split at h
    · rename_i hi
      cases h
      exact row _ _ _ _ hl hi (zs1_eq τ lv i (.int _)) k
    · cases h
  · cases h
theorem zSL_go {n i : Nat} (row : ∀ x rest (l1 l2 : List (Nat × Value)), lv_has ls nL l1 → i + 1 < nL → (i, Value.long x) :: l1.filter (fun q => !(q.1 == i) && (!(q.1 == i + 1) && !(q.1 + 1 == i && q.2.category == 2))) = l2 → (∀ ls' : Array Slot, lv_has ls' nL l2 → Ω (F0 m (pc + n) ls' rest)) → Ω (F0 m pc ls (.long x :: rest))) (h : zSL pc lv st nL n i = some (pc', lv', st')) (hl : lv_has ls nL (zlm τ lv))
    (k : ∀ ls', lv_has ls' nL (zlm τ lv') → Ω (F0 m pc' ls' (st'.map (zt τ)))) : Ω (F0 m pc ls (st.map (zt τ))) := by
  unfold zSL at h
  split at h
  · split at h
    · rename_i hi
      cases h
      exact row _ _ _ _ hl hi (zs2_eq τ lv i (.long _)) k
    · cases h
  · cases h
theorem zSD_go {n i : Nat} (row : ∀ x rest (l1 l2 : List (Nat × Value)), lv_has ls nL l1 → i + 1 < nL → (i, Value.double x) :: l1.filter (fun q => !(q.1 == i) && (!(q.1 == i + 1) && !(q.1 + 1 == i && q.2.category == 2))) = l2 → (∀ ls' : Array Slot, lv_has ls' nL l2 → Ω (F0 m (pc + n) ls' rest)) → Ω (F0 m pc ls (.double x :: rest))) (h : zSD pc lv st nL n i = some (pc', lv', st')) (hl : lv_has ls nL (zlm τ lv))
    (k : ∀ ls', lv_has ls' nL (zlm τ lv') → Ω (F0 m pc' ls' (st'.map (zt τ)))) : Ω (F0 m pc ls (st.map (zt τ))) := by
  unfold zSD at h
  split at h
  · split at h
    · rename_i hi
      cases h
      exact row _ _ _ _ hl hi (zs2_eq τ lv i (.double _)) k
    · cases h
  · cases h
theorem zSA_go {n i : Nat} (row : ∀ x rest (l1 l2 : List (Nat × Value)), lv_has ls nL l1 → i < nL → (i, Value.ref x) :: l1.filter (fun q => !(q.1 == i) && !(q.1 + 1 == i && q.2.category == 2)) = l2 → (∀ ls' : Array Slot, lv_has ls' nL l2 → Ω (F0 m (pc + n) ls' rest)) → Ω (F0 m pc ls (.ref x :: rest)))
    (rowN : ∀ rest (l1 l2 : List (Nat × Value)), lv_has ls nL l1 → i < nL → (i, Value.null) :: l1.filter (fun q => !(q.1 == i) && !(q.1 + 1 == i && q.2.category == 2)) = l2 → (∀ ls' : Array Slot, lv_has ls' nL l2 → Ω (F0 m (pc + n) ls' rest)) → Ω (F0 m pc ls (.null :: rest))) (h : zSA pc lv st nL n i = some (pc', lv', st')) (hl : lv_has ls nL (zlm τ lv))
    (k : ∀ ls', lv_has ls' nL (zlm τ lv') → Ω (F0 m pc' ls' (st'.map (zt τ)))) : Ω (F0 m pc ls (st.map (zt τ))) := by
  unfold zSA at h
  split at h
  · split at h
    · rename_i hi
      cases h
      exact row _ _ _ _ hl hi (zs1_eq τ lv i (.ref _)) k
    · cases h
  · split at h
    · rename_i hi
      cases h
      exact rowN _ _ _ hl hi (zs1_eq τ lv i .null) k
    · cases h
  · cases h
theorem zinc_go {i : Nat} {n : Int} (row : ∀ x rest (l1 l2 : List (Nat × Value)), ls[i]? = some (.val (.int x)) → lv_has ls nL l1 → i < nL → (i, Value.int (x + Int32.ofInt n)) :: l1.filter (fun q => !(q.1 == i) && !(q.1 + 1 == i && q.2.category == 2)) = l2 → (∀ ls' : Array Slot, lv_has ls' nL l2 → Ω (F0 m (pc + 3) ls' rest)) → Ω (F0 m pc ls rest)) (h : zinc pc lv st nL i n = some (pc', lv', st')) (hl : lv_has ls nL (zlm τ lv))
    (k : ∀ ls', lv_has ls' nL (zlm τ lv') → Ω (F0 m pc' ls' (st'.map (zt τ)))) : Ω (F0 m pc ls (st.map (zt τ))) := by
  unfold zinc at h
  split at h
  · rename_i e
    split at h
    · rename_i hi
      cases h
      exact row _ _ _ _ (zld_at hl e) hl hi (zs1_eq τ lv i (.int _)) k
    · cases h
  · cases h
theorem zdup_go (row : ∀ v rest, v.category = 1 → Ω (F0 m (pc + 1) ls (v :: v :: rest)) → Ω (F0 m pc ls (v :: rest))) (h : zdup pc lv st = some (pc', lv', st')) (hl : lv_has ls nL (zlm τ lv))
    (k : ∀ ls', lv_has ls' nL (zlm τ lv') → Ω (F0 m pc' ls' (st'.map (zt τ)))) : Ω (F0 m pc ls (st.map (zt τ))) := by
  unfold zdup at h
  split at h
  · split at h
    · rename_i hc
      cases h
      exact row _ _ ((zt_cat τ _).trans hc) (k ls hl)
    · cases h
  · cases h
theorem zpop_go (row : ∀ v rest, v.category = 1 → Ω (F0 m (pc + 1) ls rest) → Ω (F0 m pc ls (v :: rest))) (h : zpop pc lv st = some (pc', lv', st')) (hl : lv_has ls nL (zlm τ lv))
    (k : ∀ ls', lv_has ls' nL (zlm τ lv') → Ω (F0 m pc' ls' (st'.map (zt τ)))) : Ω (F0 m pc ls (st.map (zt τ))) := by
  unfold zpop at h
  split at h
  · split at h
    · rename_i hc
      cases h
      exact row _ _ ((zt_cat τ _).trans hc) (k ls hl)
    · cases h
  · cases h
theorem zdupx1_go (row : ∀ v w rest, v.category = 1 → w.category = 1 → Ω (F0 m (pc + 1) ls (v :: w :: v :: rest)) → Ω (F0 m pc ls (v :: w :: rest))) (h : zdupx1 pc lv st = some (pc', lv', st')) (hl : lv_has ls nL (zlm τ lv))
    (k : ∀ ls', lv_has ls' nL (zlm τ lv') → Ω (F0 m pc' ls' (st'.map (zt τ)))) : Ω (F0 m pc ls (st.map (zt τ))) := by
  unfold zdupx1 at h
  split at h
  · split at h
    · rename_i hc
      cases h
      exact row _ _ _ ((zt_cat τ _).trans hc.1) ((zt_cat τ _).trans hc.2) (k ls hl)
    · cases h
  · cases h
theorem zdup2_go (row2 : ∀ v rest, v.category = 2 → Ω (F0 m (pc + 1) ls (v :: v :: rest)) → Ω (F0 m pc ls (v :: rest))) (row1 : ∀ v w rest, v.category = 1 → w.category = 1 → Ω (F0 m (pc + 1) ls (v :: w :: v :: w :: rest)) → Ω (F0 m pc ls (v :: w :: rest))) (h : zdup2 pc lv st = some (pc', lv', st')) (hl : lv_has ls nL (zlm τ lv))
    (k : ∀ ls', lv_has ls' nL (zlm τ lv') → Ω (F0 m pc' ls' (st'.map (zt τ)))) : Ω (F0 m pc ls (st.map (zt τ))) := by
  unfold zdup2 at h
  split at h
  · split at h
    · rename_i hc
      cases h
      exact row2 _ _ ((zt_cat τ _).trans hc) (k ls hl)
    · split at h
      · split at h
        · rename_i hc
          cases h
          exact row1 _ _ _ ((zt_cat τ _).trans hc.1) ((zt_cat τ _).trans hc.2) (k ls hl)
        · cases h
      · cases h
  · cases h
theorem zpop2_go (row2 : ∀ v rest, v.category = 2 → Ω (F0 m (pc + 1) ls rest) → Ω (F0 m pc ls (v :: rest))) (row1 : ∀ v w rest, v.category = 1 → w.category = 1 → Ω (F0 m (pc + 1) ls rest) → Ω (F0 m pc ls (v :: w :: rest))) (h : zpop2 pc lv st = some (pc', lv', st')) (hl : lv_has ls nL (zlm τ lv))
    (k : ∀ ls', lv_has ls' nL (zlm τ lv') → Ω (F0 m pc' ls' (st'.map (zt τ)))) : Ω (F0 m pc ls (st.map (zt τ))) := by
  unfold zpop2 at h
  split at h
  · split at h
    · rename_i hc
      cases h
      exact row2 _ _ ((zt_cat τ _).trans hc) (k ls hl)
    · split at h
      · split at h
        · rename_i hc
          cases h
          exact row1 _ _ _ ((zt_cat τ _).trans hc.1) ((zt_cat τ _).trans hc.2) (k ls hl)
        · cases h
      · cases h
  · cases h
end zGo
section zOk
variable {p : Program} {l : Launch} {e : Env} {R : Room} {s : State} {m : MethodId} {args : Array Value} {below : List Frame} {meth : Method} {c : Code} {H : Heap} {locs : List Loc} {cells slots : Nat} {Q : State → Prop}
variable {cc : ByteArray} {τ : Nat → Nat} {pc pc' nL : Nat} {lv lv' : List (Nat × Value)} {st st' : List Value} {ls : Array Slot}
set_option maxHeartbeats 4000000 in
theorem zP_ok {i : Instr} {n : Nat} (hx : p.tables.exec = Jvm.exec) (hb : c.code = cc) (hdg : decode cc pc = .ok (i, n)) (hn : zLen i = 0 ∨ n = zLen i) (hl : lv_has ls nL (zlm τ lv)) (h : zP nL i pc lv st = some (pc', lv', st'))
    (k : ∀ ls', lv_has ls' nL (zlm τ lv') → W p l e R s m args below meth c H locs cells slots Q (F0 m pc' ls' (st'.map (zt τ)))) : W p l e R s m args below meth c H locs cells slots Q (F0 m pc ls (st.map (zt τ))) := by
  have hd : zLen i ≠ 0 → decode cc pc = .ok (i, zLen i) := fun q => by
    rcases hn with hn | hn
    · exact absurd hn q
    · rw [← hn]; exact hdg
  unfold zP at h
  split at h
  · cases h
    exact lv_iconst hx hb (hd (by simp [zLen])) rfl (k ls hl)
  · cases h
    exact lv_bipush hx hb (hd (by simp [zLen])) rfl (k ls hl)
  · cases h
    exact lv_sipush hx hb (hd (by simp [zLen])) rfl (k ls hl)
  · cases h
    exact lv_lconst hx hb (hd (by simp [zLen])) rfl (k ls hl)
  · split at h
    · rename_i hn1
      cases h
      subst hn1
      exact lv_dconst1 hx hb (hd (by simp [zLen])) (k ls hl)
    · cases h
  · cases h
    exact lv_null hx hb (hd (by simp [zLen])) (k ls hl)
  · exact zLI_go (fun x rest hi kk => lv_iload_n hx hb (hd (by simp [zLen])) rfl hi kk) h hl k
  · exact zLI_go (fun x rest hi kk => lv_iload hx hb (hd (by simp [zLen])) hi kk) h hl k
  · exact zLL_go (fun x rest hi kk => lv_lload_n hx hb (hd (by simp [zLen])) rfl hi kk) h hl k
  · exact zLL_go (fun x rest hi kk => lv_lload hx hb (hd (by simp [zLen])) hi kk) h hl k
  · exact zLD_go (fun x rest hi kk => lv_dload_n hx hb (hd (by simp [zLen])) rfl hi kk) h hl k
  · exact zLD_go (fun x rest hi kk => lv_dload hx hb (hd (by simp [zLen])) hi kk) h hl k
  · exact zLA_go (fun x rest hi kk => lv_aload_n hx hb (hd (by simp [zLen])) rfl hi kk) (fun rest hi kk => lv_aload_nN hx hb (hd (by simp [zLen])) rfl hi kk) h hl k
  · exact zLA_go (fun x rest hi kk => lv_aload hx hb (hd (by simp [zLen])) hi kk) (fun rest hi kk => lv_aloadN hx hb (hd (by simp [zLen])) hi kk) h hl k
  · exact zSI_go (fun x rest l1 l2 h1 h2 h3 kk => lv_istore_n hx hb (hd (by simp [zLen])) rfl h1 h2 h3 kk) h hl k
  · exact zSI_go (fun x rest l1 l2 h1 h2 h3 kk => lv_istore hx hb (hd (by simp [zLen])) h1 h2 h3 kk) h hl k
  · exact zSL_go (fun x rest l1 l2 h1 h2 h3 kk => lv_lstore_n hx hb (hd (by simp [zLen])) rfl h1 h2 h3 kk) h hl k
  · exact zSL_go (fun x rest l1 l2 h1 h2 h3 kk => lv_lstore hx hb (hd (by simp [zLen])) h1 h2 h3 kk) h hl k
  · exact zSD_go (fun x rest l1 l2 h1 h2 h3 kk => lv_dstore_n hx hb (hd (by simp [zLen])) rfl h1 h2 h3 kk) h hl k
  · exact zSD_go (fun x rest l1 l2 h1 h2 h3 kk => lv_dstore hx hb (hd (by simp [zLen])) h1 h2 h3 kk) h hl k
  · exact zSA_go (fun x rest l1 l2 h1 h2 h3 kk => lv_astore_n hx hb (hd (by simp [zLen])) rfl h1 h2 h3 kk) (fun rest l1 l2 h1 h2 h3 kk => lv_astore_nN hx hb (hd (by simp [zLen])) rfl h1 h2 h3 kk) h hl k
  · exact zSA_go (fun x rest l1 l2 h1 h2 h3 kk => lv_astore hx hb (hd (by simp [zLen])) h1 h2 h3 kk) (fun rest l1 l2 h1 h2 h3 kk => lv_astoreN hx hb (hd (by simp [zLen])) h1 h2 h3 kk) h hl k
  · unfold zinc at h
    split at h
    · rename_i e0
      split at h
      · rename_i hi
        cases h
        obtain ⟨j0, hj0⟩ := zld_ix (τ := τ) e0
        exact lv_iinc hx hb (hd (by simp [zLen])) hl hj0 rfl hi (zs1_eq τ lv _ (.int _)) k
      · cases h
    · cases h
  · exact z2_go (fun x y rest kk => lv_iadd hx hb (hd (by simp [zLen])) kk) (fun _ _ => rfl) h hl k
  · exact z2_go (fun x y rest kk => lv_isub hx hb (hd (by simp [zLen])) kk) (fun _ _ => rfl) h hl k
  · exact z2_go (fun x y rest kk => lv_imul hx hb (hd (by simp [zLen])) kk) (fun _ _ => rfl) h hl k
  · exact z2_go (fun x y rest kk => lv_iand hx hb (hd (by simp [zLen])) kk) (fun _ _ => rfl) h hl k
  · exact z2_go (fun x y rest kk => lv_ior hx hb (hd (by simp [zLen])) kk) (fun _ _ => rfl) h hl k
  · exact z2_go (fun x y rest kk => lv_ixor hx hb (hd (by simp [zLen])) kk) (fun _ _ => rfl) h hl k
  · exact z2_go (fun x y rest kk => lv_ishl hx hb (hd (by simp [zLen])) kk) (fun _ _ => rfl) h hl k
  · exact z2_go (fun x y rest kk => lv_ishr hx hb (hd (by simp [zLen])) kk) (fun _ _ => rfl) h hl k
  · exact z2_go (fun x y rest kk => lv_iushr hx hb (hd (by simp [zLen])) rfl kk) (fun _ _ => rfl) h hl k
  · split at h
    · rename_i y0 r0
      split at h
      · cases h
      · rename_i hy
        unfold z2 at h
        split at h
        · rename_i y1 x1 r1 heq
          cases heq
          cases h
          exact lv_idiv hx hb (hd (by simp [zLen])) hy (k ls hl)
        · cases h
    · cases h
  · split at h
    · rename_i y0 r0
      split at h
      · cases h
      · rename_i hy
        unfold z2 at h
        split at h
        · rename_i y1 x1 r1 heq
          cases heq
          cases h
          exact lv_irem hx hb (hd (by simp [zLen])) hy (k ls hl)
        · cases h
    · cases h
  · exact z1_go (fun x rest kk => lv_ineg hx hb (hd (by simp [zLen])) kk) (fun _ => rfl) h hl k
  · exact z1_go (fun x rest kk => lv_i2l hx hb (hd (by simp [zLen])) rfl kk) (fun _ => rfl) h hl k
  · exact z1_go (fun x rest kk => lv_i2b hx hb (hd (by simp [zLen])) rfl kk) (fun _ => rfl) h hl k
  · exact z1_go (fun x rest kk => lv_i2c hx hb (hd (by simp [zLen])) rfl kk) (fun _ => rfl) h hl k
  · exact z1_go (fun x rest kk => lv_i2d hx hb (hd (by simp [zLen])) kk) (fun _ => rfl) h hl k
  · exact zl2_go (fun x y rest kk => lv_ladd hx hb (hd (by simp [zLen])) kk) (fun _ _ => rfl) h hl k
  · exact zl2_go (fun x y rest kk => lv_lmul hx hb (hd (by simp [zLen])) kk) (fun _ _ => rfl) h hl k
  · exact zl2_go (fun x y rest kk => W.lcmp hx hb (hd (by simp [zLen])) kk) (fun _ _ => rfl) h hl k
  · exact zd1_go (fun x rest kk => lv_d2l hx hb (hd (by simp [zLen])) kk) (fun _ => rfl) h hl k
  · exact zd2_go (fun x y rest kk => lv_dcmp hx hb (hd (by simp [zLen])) kk) (fun _ _ => rfl) h hl k
  · exact zb1_go (fun x rest tgt ht kt kf => lv_if_eq hx hb (hd (by simp [zLen])) ht (fun q => kt (decide_eq_true q)) (fun q => kf (fun z => absurd (of_decide_eq_true z) (by first | exact q | exact not_not_intro q)))) h hl k
  · exact zb1_go (fun x rest tgt ht kt kf => lv_if_ne hx hb (hd (by simp [zLen])) ht (fun q => kt (decide_eq_true q)) (fun q => kf (fun z => absurd (of_decide_eq_true z) (by first | exact q | exact not_not_intro q)))) h hl k
  · exact zb1_go (fun x rest tgt ht kt kf => lv_if_lt hx hb (hd (by simp [zLen])) ht (fun q => kt (decide_eq_true q)) (fun q => kf (fun z => absurd (of_decide_eq_true z) (by first | exact q | exact not_not_intro q)))) h hl k
  · exact zb1_go (fun x rest tgt ht kt kf => lv_if_ge hx hb (hd (by simp [zLen])) ht (fun q => kt (decide_eq_true q)) (fun q => kf (fun z => absurd (of_decide_eq_true z) (by first | exact q | exact not_not_intro q)))) h hl k
  · exact zb1_go (fun x rest tgt ht kt kf => lv_if_gt hx hb (hd (by simp [zLen])) ht (fun q => kt (decide_eq_true q)) (fun q => kf (fun z => absurd (of_decide_eq_true z) (by first | exact q | exact not_not_intro q)))) h hl k
  · exact zb1_go (fun x rest tgt ht kt kf => lv_if_le hx hb (hd (by simp [zLen])) ht (fun q => kt (decide_eq_true q)) (fun q => kf (fun z => absurd (of_decide_eq_true z) (by first | exact q | exact not_not_intro q)))) h hl k
  · exact zb2_go (fun x y rest tgt ht kt kf => lv_icmp_eq hx hb (hd (by simp [zLen])) ht (fun q => kt (decide_eq_true q)) (fun q => kf (fun z => absurd (of_decide_eq_true z) (by first | exact q | exact not_not_intro q)))) h hl k
  · exact zb2_go (fun x y rest tgt ht kt kf => lv_icmp_ne hx hb (hd (by simp [zLen])) ht (fun q => kt (decide_eq_true q)) (fun q => kf (fun z => absurd (of_decide_eq_true z) (by first | exact q | exact not_not_intro q)))) h hl k
  · exact zb2_go (fun x y rest tgt ht kt kf => lv_icmp_lt hx hb (hd (by simp [zLen])) ht (fun q => kt (decide_eq_true q)) (fun q => kf (fun z => absurd (of_decide_eq_true z) (by first | exact q | exact not_not_intro q)))) h hl k
  · exact zb2_go (fun x y rest tgt ht kt kf => lv_icmp_ge hx hb (hd (by simp [zLen])) ht (fun q => kt (decide_eq_true q)) (fun q => kf (fun z => absurd (of_decide_eq_true z) (by first | exact q | exact not_not_intro q)))) h hl k
  · exact zb2_go (fun x y rest tgt ht kt kf => lv_icmp_gt hx hb (hd (by simp [zLen])) ht (fun q => kt (decide_eq_true q)) (fun q => kf (fun z => absurd (of_decide_eq_true z) (by first | exact q | exact not_not_intro q)))) h hl k
  · exact zb2_go (fun x y rest tgt ht kt kf => lv_icmp_le hx hb (hd (by simp [zLen])) ht (fun q => kt (decide_eq_true q)) (fun q => kf (fun z => absurd (of_decide_eq_true z) (by first | exact q | exact not_not_intro q)))) h hl k
  · exact zgo_go (fun rest tgt ht kk => lv_goto hx hb (hd (by simp [zLen])) ht kk) h hl k
  · exact zsw_go (fun x rest tgt hc ht kk => lv_tableOut hx hb hdg hc ht kk) (fun x rest off tgt h1 h2 ho ht kk => lv_tableIn hx hb hdg h1 h2 ho ht kk) h hl k
  · exact zdup_go (fun v rest hc kk => lv_dup hx hb (hd (by simp [zLen])) hc kk) h hl k
  · exact zpop_go (fun v rest hc kk => lv_pop hx hb (hd (by simp [zLen])) hc kk) h hl k
  · exact zdupx1_go (fun v w rest h1 h2 kk => lv_dup_x1 hx hb (hd (by simp [zLen])) h1 h2 kk) h hl k
  · exact zdup2_go (fun v rest hc kk => lv_dup2_2 hx hb (hd (by simp [zLen])) hc kk) (fun v w rest h1 h2 kk => lv_dup2_11 hx hb (hd (by simp [zLen])) h1 h2 kk) h hl k
  · exact zpop2_go (fun v rest hc kk => lv_pop2_2 hx hb (hd (by simp [zLen])) hc kk) (fun v w rest h1 h2 kk => lv_pop2_11 hx hb (hd (by simp [zLen])) h1 h2 kk) h hl k
  · cases h
end zOk
end
section
/-! ===== the small machine: its heap, and what the machine's heap has of it ===== -/
def zfitv (ty : FieldType) (v : Value) : Bool := decide (narrow ty v = v) && fits ty v
theorem zfitv_t {τ : Nat → Nat} {ty : FieldType} {v : Value} (h : zfitv ty v = true) : narrow ty (zt τ v) = zt τ v ∧ fits ty (zt τ v) = true := by
  unfold zfitv at h
  obtain ⟨h1, h2⟩ := Bool.and_eq_true_iff.mp h
  cases v with
  | ref i =>
    refine ⟨?_, ?_⟩
    · cases ty <;> rfl
    · cases ty <;> first | rfl | exact absurd h2 (by decide) | (exact absurd h2 (fun q => by cases q))
  | _ => exact ⟨of_decide_eq_true h1, h2⟩
def zAt (D : va_G) (U : State) (τ : Nat → Nat) (a : Nat) (c : zC) (H : Heap) : Prop :=
  if c.1 < 90 then va_at D vwCl (a, .inr (c.1, c.2.map (zt τ))) H ∧ ∀ r : vw_C, vwCl[c.1]? = some r → c.2.length = r.2.2
  else if c.1 < 100 then True
  else ∃ cA : ClassId, H[a]? = some (arrV cA c.2.length (fun k => zt τ (c.2.getD k .null))) ∧ ArrOfT U cA (zTy c.1) ∧ va_RA U cA (zTy c.1)
theorem zAt.kept {D : va_G} {U : State} {τ : Nat → Nat} {a : Nat} {c : zC} {H H1 : Heap} (h : zAt D U τ a c H) (hq : H1[a]? = H[a]?) : zAt D U τ a c H1 := by
  unfold zAt at h ⊢
  split at h
  · rename_i h1
    rw [if_pos h1]
    exact ⟨h.1.kept hq, h.2⟩
  · rename_i h1
    rw [if_neg h1]
    split at h
    · rename_i h2
      rw [if_pos h2]
      trivial
    · rename_i h2
      rw [if_neg h2]
      obtain ⟨cA, q1, q2, q3⟩ := h
      exact ⟨cA, by rw [hq]; exact q1, q2, q3⟩
theorem zAt.moved {D : va_G} {u U : State} {τ : Nat → Nat} {a : Nat} {c : zC} {H : Heap} (hvm : u.vm.Alike U.vm) (h : zAt D u τ a c H) : zAt D U τ a c H := by
  unfold zAt at h ⊢
  split at h
  · rename_i h1
    rw [if_pos h1]
    exact h
  · rename_i h1
    rw [if_neg h1]
    split at h
    · rename_i h2
      rw [if_pos h2]
      trivial
    · rename_i h2
      rw [if_neg h2]
      obtain ⟨cA, q1, q2, q3⟩ := h
      exact ⟨cA, q1, arrOfT_moved hvm q2, q3.moved hvm⟩
theorem zAt.obj {D : va_G} {U : State} {τ : Nat → Nat} {a : Nat} {c : zC} {H : Heap} (h : zAt D U τ a c H) (hc : c.1 < 90) : va_at D vwCl (a, .inr (c.1, c.2.map (zt τ))) H ∧ ∀ r : vw_C, vwCl[c.1]? = some r → c.2.length = r.2.2 := by
  unfold zAt at h
  rw [if_pos hc] at h
  exact h
theorem zAt.arr {D : va_G} {U : State} {τ : Nat → Nat} {a : Nat} {c : zC} {H : Heap} (h : zAt D U τ a c H) (hc : 100 ≤ c.1) : ∃ cA : ClassId, H[a]? = some (arrV cA c.2.length (fun k => zt τ (c.2.getD k .null))) ∧ ArrOfT U cA (zTy c.1) ∧ va_RA U cA (zTy c.1) := by
  unfold zAt at h
  rw [if_neg (by omega), if_neg (by omega)] at h
  exact h
theorem zAt.ofObj {D : va_G} {U : State} {τ : Nat → Nat} {a : Nat} {c : zC} {H : Heap} (hc : c.1 < 90) (h : va_at D vwCl (a, .inr (c.1, c.2.map (zt τ))) H) (h2 : ∀ r : vw_C, vwCl[c.1]? = some r → c.2.length = r.2.2) : zAt D U τ a c H := by
  unfold zAt
  rw [if_pos hc]
  exact ⟨h, h2⟩
theorem zAt.ofArr {D : va_G} {U : State} {τ : Nat → Nat} {a : Nat} {c : zC} {H : Heap} {cA : ClassId} (hc : 100 ≤ c.1) (h : H[a]? = some (arrV cA c.2.length (fun k => zt τ (c.2.getD k .null)))) (h2 : ArrOfT U cA (zTy c.1)) (h3 : va_RA U cA (zTy c.1)) : zAt D U τ a c H := by
  unfold zAt
  rw [if_neg (by omega), if_neg (by omega)]
  exact ⟨cA, h, h2, h3⟩
def zsum (b : Nat) (H : Heap) : Nat := ((H.toList.drop b).map (fun c => c.slots.size)).sum
theorem zsum_congr {b : Nat} {H H1 : Heap} (hz : H1.size = H.size) (h : ∀ q : Nat, (H1[q]?).map (fun c => c.slots.size) = (H[q]?).map (fun c => c.slots.size)) : zsum b H1 = zsum b H := by
  unfold zsum
  rw [List.map_drop, List.map_drop]
  congr 2
  apply List.ext_getElem?
  intro i
  rw [List.getElem?_map, List.getElem?_map, Array.getElem?_toList, Array.getElem?_toList]
  exact h i
theorem zsum_push {b : Nat} {H : Heap} {c : Cell} (hb : b ≤ H.size) : zsum b (H.push c) = zsum b H + c.slots.size := by
  unfold zsum
  rw [Array.toList_push, List.drop_append_of_le_length (by rw [Array.length_toList]; exact hb), List.map_append, List.sum_append]
  simp
/-- the machine's heap H over the small one h; u: the slots made so far -/
def zInv (D : va_G) (base : Nat) (τ : Nat → Nat) (U : State) (h : List zC) (u : Nat) (H : Heap) : Prop :=
  (∀ (i : Nat) (c : zC), h[i]? = some c → zAt D U τ (τ i) c H) ∧ zro ≤ h.length ∧ H.size + zro = base + h.length ∧ zsum base H = u ∧ h.length ≤ zCM ∧ u ≤ zSM
def zTau (base : Nat) (τ : Nat → Nat) : Prop := (∀ i, zro ≤ i → τ i + zro = base + i) ∧ (∀ i, i < zro → τ i < base) ∧ ∀ i j, zro ≤ i → τ i = τ j → i = j
theorem zInv.moved {D : va_G} {base : Nat} {τ : Nat → Nat} {s U : State} {h : List zC} {u : Nat} {H : Heap} (hvm : s.vm.Alike U.vm) (hI : zInv D base τ s h u H) : zInv D base τ U h u H :=
  ⟨fun i c hc => (hI.1 i c hc).moved hvm, hI.2⟩
theorem zInv_set {D : va_G} {base : Nat} {τ : Nat → Nat} {U : State} {h : List zC} {u i : Nat} {c c' : zC} {H H1 : Heap} (hτ : zTau base τ) (hI : zInv D base τ U h u H) (hi : h[i]? = some c) (hz : zro ≤ i) (hsz : H1.size = H.size) (hoth : ∀ q : Nat, q ≠ τ i → H1[q]? = H[q]?)
    (hslot : ∃ x y : Cell, H[τ i]? = some x ∧ H1[τ i]? = some y ∧ y.slots.size = x.slots.size) (hnew : zAt D U τ (τ i) c' H1) : zInv D base τ U (h.set i c') u H1 := by
  obtain ⟨h1, h2, h3, h4, h5, h6⟩ := hI
  refine ⟨fun j cj hj => ?_, by rw [List.length_set]; exact h2, by rw [List.length_set, hsz]; exact h3, ?_, by rw [List.length_set]; exact h5, h6⟩
  · by_cases e : i = j
    · subst e
      rw [List.getElem?_set_self (List.getElem?_eq_some_iff.mp hi).1] at hj
      cases hj
      exact hnew
    · rw [List.getElem?_set_ne e] at hj
      exact (h1 j cj hj).kept (hoth _ (fun q => e (hτ.2.2 i j hz q.symm)))
  · rw [← h4]
    apply zsum_congr hsz
    intro q
    by_cases e : q = τ i
    · subst e
      obtain ⟨x, y, e1, e2, e3⟩ := hslot
      rw [e1, e2]
      simp [e3]
    · rw [hoth q e]
theorem zInv_push {D : va_G} {base : Nat} {τ : Nat → Nat} {U : State} {h : List zC} {u n : Nat} {c : zC} {cell : Cell} {H : Heap} (hτ : zTau base τ) (hI : zInv D base τ U h u H) (hn : cell.slots.size = n) (hL : h.length + 1 ≤ zCM) (hS : u + n ≤ zSM) (hnew : zAt D U τ H.size c (H.push cell)) : zInv D base τ U (h ++ [c]) (u + n) (H.push cell) ∧ τ h.length = H.size := by
  obtain ⟨h1, h2, h3, h4, h5, h6⟩ := hI
  have ht : τ h.length = H.size := by have := hτ.1 _ h2; omega
  refine ⟨⟨fun j cj hj => ?_, by simp; omega, by simp; omega, by rw [zsum_push (by omega), h4, hn], by simp; omega, hS⟩, ht⟩
  rcases Nat.lt_or_ge j h.length with e | e
  · rw [List.getElem?_append_left e] at hj
    have hlt : τ j < H.size → (H.push cell)[τ j]? = H[τ j]? := fun q => by rw [Array.getElem?_push, if_neg (by omega)]
    refine (h1 j cj hj).kept (hlt ?_)
    rcases Nat.lt_or_ge j zro with e2 | e2
    · have := hτ.2.1 j e2; omega
    · have := hτ.1 j e2; omega
  · rw [List.getElem?_append_right e] at hj
    rcases Nat.eq_zero_or_pos (j - h.length) with e2 | e2
    · rw [e2] at hj
      cases hj
      rw [show j = h.length by omega, ht]
      exact hnew
    · rw [List.getElem?_eq_none (by simp; omega)] at hj
      cases hj
theorem arrV_congr {c : ClassId} {N : Nat} {f g : Nat → Value} (h : ∀ k, k < N → f k = g k) : arrV c N f = arrV c N g := by
  unfold arrV
  congr 1
  congr 1
  funext j
  exact h j.val j.2
theorem zset_get {l : List Value} {k j : Nat} {v : Value} (h : k < l.length) : (l.set k v).getD j .null = if j = k then v else l.getD j .null := by
  rw [List.getD_eq_getElem?_getD, List.getD_eq_getElem?_getD]
  by_cases e : j = k
  · subst e
    simp [h]
  · rw [if_neg e, List.getElem?_set_ne (fun q => e q.symm)]
theorem arrV_set {cA : ClassId} {τ : Nat → Nat} {l : List Value} {k : Nat} {v : Value} (h : k < l.length) : (arrV cA l.length (fun n => zt τ (l.getD n .null))).setSlot k (zt τ v) = arrV cA (l.set k v).length (fun n => zt τ ((l.set k v).getD n .null)) := by
  rw [arrV_store, List.length_set]
  apply arrV_congr
  intro j _
  show updV _ k (zt τ v) j = _
  rw [zset_get h]
  unfold updV
  split <;> rfl
end
section
/-! ===== the small machine: what reads or writes the heap ===== -/
/-- every class of the worlds can be cast to Object -/
def zObjs (U : State) : Prop := ∀ (a : Nat) (r : vw_C), vwCl[a]? = some r → va_Nw (.castable r.1 "java/lang/Object") U

abbrev zOh : Type := Option (Nat × List Value × List zC)
def zGet (a b pc : Nat) (st : List Value) (h : List zC) : zOh := match st with
  | .ref q :: r => match h[q]? with
    | some c => if c.1 = a ∧ a < 90 then match c.2[b]? with
        | some v => some (pc + 3, v :: r, h)
        | none => none
      else none
    | none => none
  | _ => none
def zPut (a b pc : Nat) (st : List Value) (h : List zC) : zOh := match st with
  | v :: .ref q :: r => match h[q]? with
    | some c => if c.1 = a ∧ a < 90 ∧ zro ≤ q ∧ b < c.2.length ∧ zfitv (zFT a b) v = true then some (pc + 3, r, h.set q (c.1, c.2.set b v)) else none
    | none => none
  | _ => none
def zLenA (pc : Nat) (st : List Value) (h : List zC) : zOh := match st with
  | .ref q :: r => match h[q]? with
    | some c => if 100 ≤ c.1 then some (pc + 1, .int (Int32.ofNat c.2.length) :: r, h) else none
    | none => none
  | _ => none
def zLdA (ok : Nat → Bool) (pc : Nat) (st : List Value) (h : List zC) : zOh := match st with
  | .int j :: .ref q :: r => match h[q]? with
    | some c => if ok c.1 = true ∧ ¬ j < 0 then match c.2[j.toNatClampNeg]? with
        | some v => some (pc + 1, v :: r, h)
        | none => none
      else none
    | none => none
  | _ => none
def zStA (ok : Nat → Bool) (f : Nat → Int32 → Value) (pc : Nat) (st : List Value) (h : List zC) : zOh := match st with
  | .int x :: .int j :: .ref q :: r => match h[q]? with
    | some c => if ok c.1 = true ∧ zro ≤ q ∧ ¬ j < 0 ∧ j.toNatClampNeg < c.2.length then some (pc + 1, r, h.set q (c.1, c.2.set j.toNatClampNeg (f c.1 x))) else none
    | none => none
  | _ => none
def zStR (pc : Nat) (st : List Value) (h : List zC) : zOh := match st with
  | .ref v :: .int j :: .ref q :: r => match h[q]?, h[v]? with
    | some c, some cv => if 105 ≤ c.1 ∧ zro ≤ q ∧ ¬ j < 0 ∧ j.toNatClampNeg < c.2.length ∧ cv.1 < 90 ∧ (zTy c.1 = .object (zNm cv.1) ∨ zTy c.1 = .object "java/lang/Object") then some (pc + 1, r, h.set q (c.1, c.2.set j.toNatClampNeg (.ref v))) else none
    | _, _ => none
  | _ => none
def zCk (a pc : Nat) (st : List Value) (h : List zC) : zOh := match st with
  | .ref q :: r => match h[q]? with
    | some c => if c.1 = a ∧ a < 90 then some (pc + 3, .ref q :: r, h) else none
    | none => none
  | _ => none
/-- an instruction that reads or writes the heap, and makes nothing; a: the class' place, b: the field's (1000 more: a nest mate's) -/
def zG (i : Instr) (a b pc : Nat) (st : List Value) (h : List zC) : zOh := match i with
  | .getfield _ => zGet a (b % 1000) pc st h
  | .putfield _ => zPut a (b % 1000) pc st h
  | .arraylength => zLenA pc st h
  | .iaload => zLdA (fun k => k == 100) pc st h
  | .baload => zLdA (fun k => k == 101 || k == 102) pc st h
  | .aaload => zLdA (fun k => decide (104 ≤ k) && (zTy k).isReference) pc st h
  | .iastore => zStA (fun k => k == 100) (fun _ x => .int x) pc st h
  | .bastore => zStA (fun k => k == 101 || k == 102) (fun k x => if k = 101 then narrow .byte (.int x) else narrow .boolean (.int x)) pc st h
  | .aastore => zStR pc st h
  | .checkcast _ => zCk a pc st h
  | _ => none
/-- what is to be true of it besides: a field that is final is written in its own class' constructor alone -/
def zSg (own mn : String) (i : Instr) (a b : Nat) : Prop := match i with
  | .putfield _ => ((zF a (b % 1000)).2.2.2 = true → mn = "<init>" ∧ (zF a (b % 1000)).1 = own ∧ b < 1000)
  | _ => True
section zHp
variable {p : Program} {l : Launch} {e : Env} {R : Room} {s : State} {m : MethodId} {args : Array Value} {below : List Frame} {meth : Method} {c : Code} {H : Heap} {locs : List Loc} {cells slots : Nat} {Q : State → Prop}
variable {cc : ByteArray} {D : va_G} {base : Nat} {τ : Nat → Nat} {own mn : String} {pc pc' a b u : Nat} {st st' : List Value} {ls : Array Slot} {h h' : List zC}
theorem zF_of {r : vw_C} {k : Nat} (hr : vwCl[a]? = some r) : zF a k = r.2.1 k := by
  unfold zF
  rw [hr]
theorem zNm_of {r : vw_C} (hr : vwCl[a]? = some r) : zNm a = r.1 := by
  unfold zNm
  rw [hr]
theorem zA_of (hτ : zTau base τ) {q : Nat} (hq : zro ≤ q) : base ≤ τ q := by have := hτ.1 q hq; omega
theorem zGet_ok (hx : p.tables.exec = Jvm.exec) (hb : c.code = cc) (hown : s.vm.findClass own = some m.cls) (hts : ∀ w ∈ zT, w.before args s = true) (hK : va_K D vwCl [] s) {x n : Nat} (hdg : decode cc pc = .ok (.getfield x, n)) (hn : n = 3) (hw : ∀ w ∈ zNg own (.getfield x) a b, w.before args s = true)
    (hI : zInv D base τ s h u H) (hg : zGet a (b % 1000) pc st h = some (pc', st', h')) (k : h' = h → W p l e R s m args below meth c H locs cells slots Q (F0 m pc' ls (st'.map (zt τ)))) : W p l e R s m args below meth c H locs cells slots Q (F0 m pc ls (st.map (zt τ))) := by
  subst hn
  unfold zGet at hg
  split at hg
  · rename_i q r
    split at hg
    · rename_i c1 hc1
      split at hg
      · rename_i hc
        obtain ⟨hca, ha⟩ := hc
        split at hg
        · rename_i v hv
          cases hg
          subst hca
          obtain ⟨hat, hlen⟩ := (hI.1 q c1 hc1).obj ha
          obtain ⟨rr, hr, hOB⟩ := id hat
          have hk : b % 1000 < rr.2.2 := by
            rw [← hlen rr hr]
            exact (List.getElem?_eq_some_iff.mp hv).1
          have hP : va_P D vwCl [(τ q, .inr (c1.1, c1.2.map (zt τ)))] H := fun i y hy => by
            match i, hy with
            | 0, hy => cases hy; exact hat
            | i + 1, hy => simp at hy
          have hv2 : (c1.2.map (zt τ))[b % 1000]? = some (zt τ v) := by rw [List.getElem?_map, hv]; rfl
          have kk := k rfl
          unfold zNg at hw
          dsimp only at hw
          split at hw
          · rename_i hb1
            rw [Nat.mod_eq_of_lt hb1] at hk hv2
            rw [zF_of hr] at hw
            exact va_get hx hb hts (zIn _ _ hr) hown hK hP 0 rfl hr b hk (hw _ List.mem_cons_self) (fun _ q => q) hv2 hdg kk
          · rw [zF_of hr] at hw
            exact va_getN hx hb hts (zIn _ _ hr) hown hK hP 0 rfl hr (b % 1000) hk (hw _ List.mem_cons_self) (fun _ q => q) hv2 hdg kk
        · cases hg
      · cases hg
    · cases hg
  · cases hg
theorem zPut_ok (hx : p.tables.exec = Jvm.exec) (hb : c.code = cc) (hown : s.vm.findClass own = some m.cls) (hts : ∀ w ∈ zT, w.before args s = true) (hK : va_K D vwCl [] s) (hτ : zTau base τ) (hmn : meth.name = mn) {x n : Nat} (hdg : decode cc pc = .ok (.putfield x, n)) (hn : n = 3) (hw : ∀ w ∈ zNg own (.putfield x) a b, w.before args s = true) (hs : zSg own mn (.putfield x) a b)
    (hI : zInv D base τ s h u H) (hS : va_S (fun q => base ≤ q) s.heap H locs) (hg : zPut a (b % 1000) pc st h = some (pc', st', h')) (k : ∀ H1 locs1, zInv D base τ s h' u H1 → va_S (fun q => base ≤ q) s.heap H1 locs1 → H1.size = H.size → W p l e R s m args below meth c H1 locs1 cells slots Q (F0 m pc' ls (st'.map (zt τ)))) : W p l e R s m args below meth c H locs cells slots Q (F0 m pc ls (st.map (zt τ))) := by
  subst hn
  unfold zPut at hg
  split at hg
  · rename_i v q r
    split at hg
    · rename_i c1 hc1
      split at hg
      · rename_i hc
        obtain ⟨hca, ha, hzq, hbl, hfit⟩ := hc
        cases hg
        subst hca
        obtain ⟨hat, hlen⟩ := (hI.1 q c1 hc1).obj ha
        obtain ⟨rr, hr, hOB⟩ := id hat
        have hk : b % 1000 < rr.2.2 := by
          rw [← hlen rr hr]
          exact hbl
        have hP : va_P D vwCl [(τ q, .inr (c1.1, c1.2.map (zt τ)))] H := fun i y hy => by
          match i, hy with
          | 0, hy => cases hy; exact hat
          | i + 1, hy => simp at hy
        have hD : va_D (fun q => base ≤ q) [(τ q, (.inr (c1.1, c1.2.map (zt τ)) : va_E))] := by
          refine ⟨fun i j y z hy hz _ => ?_, fun i y hy => ?_⟩
          · have h1 := (List.getElem?_eq_some_iff.mp hy).1
            have h2 := (List.getElem?_eq_some_iff.mp hz).1
            simp at h1 h2
            omega
          · match i, hy with
            | 0, hy => cases hy; exact zA_of hτ hzq
            | i + 1, hy => simp at hy
        obtain ⟨hn1, hf1⟩ := zfitv_t (τ := τ) hfit
        have hpd := zTyOk _ _ hr (b % 1000) hk
        have hl2 : b % 1000 < (c1.2.map (zt τ)).length := by rw [List.length_map]; exact hbl
        have fin : ∀ (H1 : Heap) (locs1 : List Loc), va_P D vwCl [(τ q, .inr (c1.1, (c1.2.map (zt τ)).set (b % 1000) (zt τ v)))] H1 → va_S (fun q => base ≤ q) s.heap H1 locs1 → H1.size = H.size → (∀ z, z ≠ τ q → H1[z]? = H[z]?) → (∃ x y : Cell, H[τ q]? = some x ∧ H1[τ q]? = some y ∧ y.slots.size = x.slots.size) → W p l e R s m args below meth c H1 locs1 cells slots Q (F0 m (pc + 3) ls (st'.map (zt τ))) := by
          intro H1 locs1 hP1 hS1 hz1 ho1 hsl1
          refine k H1 locs1 (zInv_set hτ hI hc1 hzq hz1 ho1 hsl1 (zAt.ofObj ha ?_ ?_)) hS1 hz1
          · have h9 := hP1 0 _ rfl
            show va_at D vwCl (τ q, .inr (c1.1, (c1.2.set (b % 1000) v).map (zt τ))) H1
            rw [List.map_set]
            exact h9
          · intro r2 hr2
            show (c1.2.set (b % 1000) v).length = _
            rw [List.length_set]
            exact hlen r2 hr2
        obtain ⟨hSl, hfc, kC, hkC, hkind⟩ := hK.1 _ _ hr
        obtain ⟨cf, kf, fi, f, hi, hsl⟩ := hSl _ hk
        obtain ⟨cell, q1, q2, q3, q4⟩ := hOB
        have hlay := hts _ (zIn _ _ hr _ (u_in_lay hk))
        have hst := (u_facts hfc hkC (u_lays hts (zIn _ _ hr) hk) hi).1
        have hap := va_apart (own := own) hts (zIn _ _ hr) (zFT c1.1) (zTyOk _ _ hr) (zNap _ _ hr) hK hr
        unfold zNg at hw
        dsimp only at hw
        have last : ∀ H1 : Heap, H1[τ q]? = some (cell.setSlot f.slot (zt τ v)) → H1.size = H.size → (∀ z, z ≠ τ q → H1[z]? = H[z]?) → W p l e R s m args below meth c H1 (locs ++ [⟨τ q, f.slot⟩]) cells slots Q (F0 m (pc + 3) ls (st'.map (zt τ))) := by
          intro H1 e1 e2 e3
          refine fin H1 _ ?_ (hS.put e2 e3 (zA_of hτ hzq)) e2 e3 ⟨_, _, q1, e1, by simp [Cell.setSlot]⟩
          rw [hsl] at e1
          exact fun i y hy => by
            match i, hy with
            | 0, hy =>
              cases hy
              exact ⟨_, hr, t_OB.to (V := updV (vp_V (c1.2.map (zt τ))) (b % 1000) (zt τ v)) ⟨_, e1, q2, q3, t_set q4 hap hk (zt τ v)⟩ (fun j _ => vp_updV_set hl2 (zt τ v) j)⟩
            | i + 1, hy => simp at hy
        by_cases hfin : (rr.2.1 (b % 1000)).2.2.2 = true
        · have hs2 : (zF c1.1 (b % 1000)).2.2.2 = true → mn = "<init>" ∧ (zF c1.1 (b % 1000)).1 = own ∧ b < 1000 := hs
          rw [zF_of hr] at hs2
          obtain ⟨s1, s2, s3⟩ := hs2 hfin
          rw [if_pos s3, zF_of hr] at hw
          rw [Nat.mod_eq_of_lt s3] at *
          unfold u_lay at hlay
          rw [if_pos hfin] at hlay
          have hcf : m.cls = cf := by
            obtain ⟨_, _, c', _, _, _, -, -, hf', -, -, -, hown2, -⟩ := Cond.laysFinal_spec hlay
            have e1 : c' = cf := by have := hi.symm.trans hf'; simp at this; exact this.1.symm
            rw [s2] at hown2
            rw [← e1]; exact Option.some.inj (hown.symm.trans hown2)
          have h6 := u_fits hfc hkC hkind (Or.inr hlay) hi hpd hn1 hf1
          exact W.putFinK hx hb hown (hw _ List.mem_cons_self) hi hst hcf (hmn.trans s1) (by rw [q2]; exact h6) q1 q3 (by rw [hsl]; exact k2_hasslot (q4 _ hk)) rfl rfl hdg last
        · have hfin2 : (rr.2.1 (b % 1000)).2.2.2 = false := by simpa using hfin
          unfold u_lay at hlay
          rw [if_neg hfin] at hlay
          have h6 := u_store hfc hkC hkind hlay hi hpd hn1 hf1
          split at hw
          · rename_i hb1
            rw [zF_of hr] at hw
            rw [Nat.mod_eq_of_lt hb1] at *
            exact W.putK hx hb (f := f) ⟨hown, hw _ List.mem_cons_self, ⟨_, _, _, hi⟩, hst⟩ (by rw [q2]; exact h6) q1 q3 (by rw [hsl]; exact k2_hasslot (q4 _ hk)) rfl rfl hdg last
          · rw [zF_of hr] at hw
            exact va_WputK hx hb (f := f) hown (hw _ List.mem_cons_self) hi hst (by rw [q2]; exact h6) q1 q3 (by rw [hsl]; exact k2_hasslot (q4 _ hk)) rfl rfl hdg last
      · cases hg
    · cases hg
  · cases hg
theorem zLenA_ok (hx : p.tables.exec = Jvm.exec) (hb : c.code = cc) {n : Nat} (hdg : decode cc pc = .ok (.arraylength, n)) (hn : n = 1)
    (hI : zInv D base τ s h u H) (hg : zLenA pc st h = some (pc', st', h')) (k : h' = h → W p l e R s m args below meth c H locs cells slots Q (F0 m pc' ls (st'.map (zt τ)))) : W p l e R s m args below meth c H locs cells slots Q (F0 m pc ls (st.map (zt τ))) := by
  subst hn
  unfold zLenA at hg
  split at hg
  · rename_i q r
    split at hg
    · rename_i c1 hc1
      split at hg
      · rename_i hc
        cases hg
        obtain ⟨cA, h1, h2, h3⟩ := (hI.1 q c1 hc1).arr hc
        exact W.alen hx hb h1 (h2 _ _) (by rw [arrV_size]) rfl rfl hdg (k rfl)
      · cases hg
    · cases hg
  · cases hg
theorem zTy_100 : zTy 100 = .int := rfl
theorem zLdA_ok {i : Instr} {ok : Nat → Bool} (hx : p.tables.exec = Jvm.exec) (hb : c.code = cc) {n : Nat} (hdg : decode cc pc = .ok (i, n)) (hn : n = 1)
    (row : ∀ (q : Nat) (rest : List Value) (kd N : Nat) (cA : ClassId) (f : Nat → Value) (j : Int32), ok kd = true → H[q]? = some (arrV cA N f) → ArrOfT s cA (zTy kd) → ¬ (j < 0 ∨ N ≤ j.toNatClampNeg) → decode cc pc = .ok (i, 1) → W p l e R s m args below meth c H locs cells slots Q (F0 m (pc + 1) ls (f j.toNatClampNeg :: rest)) → W p l e R s m args below meth c H locs cells slots Q (F0 m pc ls (.int j :: .ref q :: rest)))
    (hok : ∀ kd, ok kd = true → 100 ≤ kd)
    (hI : zInv D base τ s h u H) (hg : zLdA ok pc st h = some (pc', st', h')) (k : h' = h → W p l e R s m args below meth c H locs cells slots Q (F0 m pc' ls (st'.map (zt τ)))) : W p l e R s m args below meth c H locs cells slots Q (F0 m pc ls (st.map (zt τ))) := by
  subst hn
  unfold zLdA at hg
  split at hg
  · rename_i j q r
    split at hg
    · rename_i c1 hc1
      split at hg
      · rename_i hc
        split at hg
        · rename_i v hv
          cases hg
          obtain ⟨cA, h1, h2, h3⟩ := (hI.1 q c1 hc1).arr (hok _ hc.1)
          have hlt := (List.getElem?_eq_some_iff.mp hv).1
          refine row (τ q) _ c1.1 c1.2.length cA _ j hc.1 h1 h2 (fun z => z.elim hc.2 (fun z => absurd hlt (by omega))) hdg ?_
          have kk := k rfl
          rw [List.map_cons] at kk
          have ev : zt τ (c1.2.getD j.toNatClampNeg .null) = zt τ v := by rw [List.getD_eq_getElem?_getD, hv]; rfl
          show W p l e R s m args below meth c H locs cells slots Q (F0 m (pc + 1) ls (zt τ (c1.2.getD j.toNatClampNeg .null) :: _))
          rw [ev]
          exact kk
        · cases hg
      · cases hg
    · cases hg
  · cases hg
theorem zInv_arr (hτ : zTau base τ) (hI : zInv D base τ s h u H) {q kd jn : Nat} {l : List Value} {v : Value} {cA : ClassId} {H1 : Heap} (hc : h[q]? = some (kd, l)) (hk : 100 ≤ kd) (hzq : zro ≤ q) (hj : jn < l.length) (h1 : H[τ q]? = some (arrV cA l.length (fun k => zt τ (l.getD k .null)))) (h2 : ArrOfT s cA (zTy kd)) (h3 : va_RA s cA (zTy kd))
    (e1 : H1[τ q]? = some ((arrV cA l.length (fun k => zt τ (l.getD k .null))).setSlot jn (zt τ v))) (e2 : H1.size = H.size) (e3 : ∀ z, z ≠ τ q → H1[z]? = H[z]?) : zInv D base τ s (h.set q (kd, l.set jn v)) u H1 := by
  refine zInv_set hτ hI hc hzq e2 e3 ⟨_, _, h1, e1, by simp [Cell.setSlot]⟩ (zAt.ofArr hk ?_ h2 h3)
  rw [e1, arrV_set hj]
theorem zStA_ok {i : Instr} {ok : Nat → Bool} {f : Nat → Int32 → Value} (hx : p.tables.exec = Jvm.exec) (hb : c.code = cc) (hτ : zTau base τ) {n : Nat} (hdg : decode cc pc = .ok (i, n)) (hn : n = 1)
    (row : ∀ (q : Nat) (rest : List Value) (kd N : Nat) (cA : ClassId) (g : Nat → Value) (j x : Int32), ok kd = true → H[q]? = some (arrV cA N g) → ArrOfT s cA (zTy kd) → ¬ (j < 0 ∨ N ≤ j.toNatClampNeg) → decode cc pc = .ok (i, 1) →
      (∀ H' : Heap, H'[q]? = some ((arrV cA N g).setSlot j.toNatClampNeg (f kd x)) → H'.size = H.size → (∀ z, z ≠ q → H'[z]? = H[z]?) → W p l e R s m args below meth c H' (locs ++ [⟨q, j.toNatClampNeg⟩]) cells slots Q (F0 m (pc + 1) ls rest)) → W p l e R s m args below meth c H locs cells slots Q (F0 m pc ls (.int x :: .int j :: .ref q :: rest)))
    (hok : ∀ kd, ok kd = true → 100 ≤ kd) (hf : ∀ kd x, zt τ (f kd x) = f kd x)
    (hI : zInv D base τ s h u H) (hS : va_S (fun q => base ≤ q) s.heap H locs) (hg : zStA ok f pc st h = some (pc', st', h')) (k : ∀ H1 locs1, zInv D base τ s h' u H1 → va_S (fun q => base ≤ q) s.heap H1 locs1 → H1.size = H.size → W p l e R s m args below meth c H1 locs1 cells slots Q (F0 m pc' ls (st'.map (zt τ)))) : W p l e R s m args below meth c H locs cells slots Q (F0 m pc ls (st.map (zt τ))) := by
  subst hn
  unfold zStA at hg
  split at hg
  · rename_i x j q r
    split at hg
    · rename_i c1 hc1
      split at hg
      · rename_i hc
        obtain ⟨ho, hzq, hj0, hjl⟩ := hc
        cases hg
        obtain ⟨cA, h1, h2, h3⟩ := (hI.1 q c1 hc1).arr (hok _ ho)
        refine row (τ q) _ c1.1 c1.2.length cA _ j x ho h1 h2 (fun z => z.elim hj0 (fun z => absurd hjl (by omega))) hdg (fun H1 e1 e2 e3 => ?_)
        rw [← hf] at e1
        exact k H1 _ (zInv_arr hτ hI hc1 (hok _ ho) hzq hjl h1 h2 h3 e1 e2 e3) (hS.put e2 e3 (zA_of hτ hzq)) e2
      · cases hg
    · cases hg
  · cases hg
theorem zStR_ok (hx : p.tables.exec = Jvm.exec) (hb : c.code = cc) (hK : va_K D vwCl [] s) (hτ : zTau base τ) (hO : zObjs s) {n : Nat} (hdg : decode cc pc = .ok (.aastore, n)) (hn : n = 1)
    (hI : zInv D base τ s h u H) (hS : va_S (fun q => base ≤ q) s.heap H locs) (hg : zStR pc st h = some (pc', st', h')) (k : ∀ H1 locs1, zInv D base τ s h' u H1 → va_S (fun q => base ≤ q) s.heap H1 locs1 → H1.size = H.size → W p l e R s m args below meth c H1 locs1 cells slots Q (F0 m pc' ls (st'.map (zt τ)))) : W p l e R s m args below meth c H locs cells slots Q (F0 m pc ls (st.map (zt τ))) := by
  subst hn
  unfold zStR at hg
  split at hg
  · rename_i v j q r
    split at hg
    · rename_i c1 cv hc1 hcv
      split at hg
      · rename_i hc
        obtain ⟨ho, hzq, hj0, hjl, hv9, hty⟩ := hc
        cases hg
        obtain ⟨cA, h1, h2, h3⟩ := (hI.1 q c1 hc1).arr (by omega)
        obtain ⟨⟨rv, hrv, cell, q1, q2, q3, q4⟩, -⟩ := (hI.1 v cv hcv).obj hv9
        have hcls := (hK.1 _ _ hrv).2
        obtain ⟨kC, hkC, -⟩ := hcls.2
        have go : ∀ (C : String), zTy c1.1 = .object C → (∀ comp, s.vm.findClass C = some comp → s.vm.assignable (D.1 cv.1) comp = true ∧ ∃ kk : Class, s.vm.classes[comp]? = some kk) → W p l e R s m args below meth c H locs cells slots Q (F0 m pc ls ((Value.ref v :: Value.int j :: Value.ref q :: st').map (zt τ))) := by
          intro C hC hcmp
          rw [hC] at h3
          obtain ⟨kA, comp, k1, k2, k3, k4⟩ := id h3
          obtain ⟨a1, kk9, a2⟩ := hcmp comp k3
          refine W.aast hx hb h1 (fun q h => by cases h) (fun h => by cases h) k1 k2 rfl a2 ⟨hj0, by rw [arrV_size]; exact hjl⟩ q1 (fun q h => by rw [q3] at h; cases h) (by rw [q2]; exact hkC) (by rw [q2]; exact a1) rfl rfl hdg (fun H1 e1 e2 e3 => ?_)
          exact k H1 _ (zInv_arr hτ hI hc1 (by omega) hzq hjl h1 h2 (by rw [hC]; exact h3) e1 e2 e3) (hS.put e2 e3 (zA_of hτ hzq)) e2
        rcases hty with hty | hty
        · rw [zNm_of hrv] at hty
          refine go rv.1 hty (fun comp hcomp => ?_)
          cases Option.some.inj (hcls.1.symm.trans hcomp)
          exact ⟨va_assign hcls, _, hkC⟩
        · refine go "java/lang/Object" hty (fun comp hcomp => ?_)
          obtain ⟨c0, t0, f1, f2, f3⟩ := Cond.castable_spec (va_Nw.use (A := args) rfl (hO _ _ hrv))
          cases Option.some.inj (hcls.1.symm.trans f1)
          cases Option.some.inj (f2.symm.trans hcomp)
          obtain ⟨kk9, h9, -⟩ := Vm.findClass_spec hcomp
          exact ⟨f3, kk9, h9⟩
      · cases hg
    · cases hg
  · cases hg
theorem zCk_ok (hx : p.tables.exec = Jvm.exec) (hb : c.code = cc) (hown : s.vm.findClass own = some m.cls) (hK : va_K D vwCl [] s) {x n : Nat} (hdg : decode cc pc = .ok (.checkcast x, n)) (hn : n = 3) (hw : ∀ w ∈ zNg own (.checkcast x) a b, w.before args s = true)
    (hI : zInv D base τ s h u H) (hg : zCk a pc st h = some (pc', st', h')) (k : h' = h → W p l e R s m args below meth c H locs cells slots Q (F0 m pc' ls (st'.map (zt τ)))) : W p l e R s m args below meth c H locs cells slots Q (F0 m pc ls (st.map (zt τ))) := by
  subst hn
  unfold zCk at hg
  split at hg
  · rename_i q r
    split at hg
    · rename_i c1 hc1
      split at hg
      · rename_i hc
        obtain ⟨hca, ha⟩ := hc
        cases hg
        subst hca
        obtain ⟨⟨rv, hrv, cell, q1, q2, q3, q4⟩, -⟩ := (hI.1 q c1 hc1).obj ha
        have hcls := (hK.1 _ _ hrv).2
        have hw1 := hw _ List.mem_cons_self
        rw [zNm_of hrv] at hw1
        intro T hT X
        obtain ⟨vm', X', stp⟩ := X.checkcastYes hx hown hw1 (by rw [hT]; exact q1) (by rw [q3]; rfl) hcls.1 (by rw [q2]; exact va_assign hcls) (g := F0 m pc ls (Value.ref (τ q) :: r.map (zt τ))) rfl rfl (by rw [hb]; exact hdg)
        obtain ⟨t, a1, b1⟩ := k rfl (T.setVm vm') hT X'
        exact ⟨t, stp t a1, b1⟩
      · cases hg
    · cases hg
  · cases hg
set_option maxHeartbeats 1000000 in
theorem zG_ok {i : Instr} {n : Nat} (hx : p.tables.exec = Jvm.exec) (hb : c.code = cc) (hown : s.vm.findClass own = some m.cls) (hts : ∀ w ∈ zT, w.before args s = true) (hK : va_K D vwCl [] s) (hτ : zTau base τ) (hO : zObjs s) (hmn : meth.name = mn) (hdg : decode cc pc = .ok (i, n)) (hn : zLen i = 0 ∨ n = zLen i) (hw : ∀ w ∈ zNg own i a b, w.before args s = true) (hs : zSg own mn i a b)
    (hI : zInv D base τ s h u H) (hS : va_S (fun q => base ≤ q) s.heap H locs) (hg : zG i a b pc st h = some (pc', st', h')) (k : ∀ H1 locs1, zInv D base τ s h' u H1 → va_S (fun q => base ≤ q) s.heap H1 locs1 → H1.size = H.size → W p l e R s m args below meth c H1 locs1 cells slots Q (F0 m pc' ls (st'.map (zt τ)))) : W p l e R s m args below meth c H locs cells slots Q (F0 m pc ls (st.map (zt τ))) := by
  have hd : zLen i ≠ 0 → n = zLen i := fun q => hn.resolve_left q
  have kr : h' = h → W p l e R s m args below meth c H locs cells slots Q (F0 m pc' ls (st'.map (zt τ))) := fun q => k H locs (by rw [q]; exact hI) hS rfl
  unfold zG at hg
  split at hg
  · exact zGet_ok hx hb hown hts hK hdg (hd (by simp [zLen])) hw hI hg kr
  · exact zPut_ok hx hb hown hts hK hτ hmn hdg (hd (by simp [zLen])) hw hs hI hS hg k
  · exact zLenA_ok hx hb hdg (hd (by simp [zLen])) hI hg kr
  · refine zLdA_ok hx hb hdg (hd (by simp [zLen])) (fun q rest kd N cA f j hok h1 h2 h3 h4 kk => ?_) (fun kd q => by simp at q; omega) hI hg kr
    have e : kd = 100 := by simpa using hok
    subst e
    exact W.iald (v := f j.toNatClampNeg) hx hb h1 (h2 _ _) (fun q => by cases q) (by rw [arrV_size]; exact h3) (arrV_read _ _ (by omega)) rfl rfl h4 kk
  · refine zLdA_ok hx hb hdg (hd (by simp [zLen])) (fun q rest kd N cA f j hok h1 h2 h3 h4 kk => ?_) (fun kd q => by simp at q; omega) hI hg kr
    have e : kd = 101 ∨ kd = 102 := by simpa using hok
    rcases e with e | e
    · subst e
      exact W.bald (v := f j.toNatClampNeg) hx hb h1 (h2 _ _) (fun q => by cases q) (by rw [arrV_size]; exact h3) (arrV_read _ _ (by omega)) rfl rfl h4 kk
    · subst e
      exact W.zald (v := f j.toNatClampNeg) hx hb h1 (h2 _ _) (fun q => by cases q) (by rw [arrV_size]; exact h3) (arrV_read _ _ (by omega)) rfl rfl h4 kk
  · refine zLdA_ok hx hb hdg (hd (by simp [zLen])) (fun q rest kd N cA f j hok h1 h2 h3 h4 kk => ?_) (fun kd q => by simp at q; omega) hI hg kr
    have e : 104 ≤ kd ∧ (zTy kd).isReference = true := by simpa using hok
    exact W.aald (v := f j.toNatClampNeg) hx hb h1 (h2 _ _) e.2 (fun q => by cases q) (by rw [arrV_size]; exact h3) (arrV_read _ _ (by omega)) rfl rfl h4 kk
  · refine zStA_ok hx hb hτ hdg (hd (by simp [zLen])) (fun q rest kd N cA g j x hok h1 h2 h3 h4 kk => ?_) (fun kd q => by simp at q; omega) (fun _ _ => rfl) hI hS hg k
    have e : kd = 100 := by simpa using hok
    subst e
    exact W.iast hx hb h1 (h2 _ _) (fun q => by cases q) (by rw [arrV_size]; exact h3) rfl rfl h4 kk
  · refine zStA_ok hx hb hτ hdg (hd (by simp [zLen])) (fun q rest kd N cA g j x hok h1 h2 h3 h4 kk => ?_) (fun kd q => by simp at q; omega) (fun kd x => by split <;> rfl) hI hS hg k
    have e : kd = 101 ∨ kd = 102 := by simpa using hok
    rcases e with e | e
    · subst e
      exact W.bast hx hb h1 (h2 _ _) (fun q => by cases q) (by rw [arrV_size]; exact h3) rfl rfl h4 kk
    · subst e
      exact W.zast hx hb h1 (h2 _ _) (fun q => by cases q) (by rw [arrV_size]; exact h3) rfl rfl h4 kk
  · exact zStR_ok hx hb hK hτ hO hdg (hd (by simp [zLen])) hI hS hg k
  · exact zCk_ok hx hb hown hK hdg (hd (by simp [zLen])) hw hI hg kr
  · cases hg
end zHp
end
section
/-! ===== the small machine: what makes cells ===== -/
def zDef (a : Nat) : List Value := match vwCl[a]? with
  | some r => (List.range r.2.2).map (fun k => defaultValue (zFT a k))
  | none => []
abbrev zOm : Type := Option (Nat × List Value × List zC × Nat)
/-- an instruction that makes cells: an object, an array, an array of arrays -/
def zMk (i : Instr) (a pc : Nat) (st : List Value) (h : List zC) (u : Nat) : zOm := match i with
  | .new _ => if a < vwCl.length ∧ a < 90 ∧ h.length + 1 ≤ zCM ∧ u + zCn a ≤ zSM then some (pc + 3, .ref h.length :: st, h ++ [(a, zDef a)], u + zCn a) else none
  | .newarray at1 => match st with
    | .int n :: r => if 100 ≤ a ∧ zTy a = newarray.typeOf at1 ∧ ¬ n < 0 ∧ n.toNatClampNeg * 8 ≤ 536870912 ∧ h.length + 1 ≤ zCM ∧ u + n.toNatClampNeg ≤ zSM then some (pc + 2, .ref h.length :: r, h ++ [(a, List.replicate n.toNatClampNeg (defaultValue (newarray.typeOf at1)))], u + n.toNatClampNeg) else none
    | _ => none
  | .anewarray _ => match st with
    | .int n :: r => if 100 ≤ a ∧ zTy a = .object (zOb a) ∧ ¬ n < 0 ∧ n.toNatClampNeg * 4 ≤ 536870912 ∧ h.length + 1 ≤ zCM ∧ u + n.toNatClampNeg ≤ zSM then some (pc + 3, .ref h.length :: r, h ++ [(a, List.replicate n.toNatClampNeg .null)], u + n.toNatClampNeg) else none
    | _ => none
  | .multianewarray _ d => match st with
    | .int k :: .int n :: r => if d = 2 ∧ a = 104 ∧ ¬ n < 0 ∧ ¬ k < 0 ∧ n.toNatClampNeg ≤ 1000 ∧ k.toNatClampNeg ≤ 1000 ∧ h.length + 1 + n.toNatClampNeg ≤ zCM ∧ u + n.toNatClampNeg + n.toNatClampNeg * k.toNatClampNeg ≤ zSM then
        some (pc + 4, .ref h.length :: r, h ++ ((104, (List.range n.toNatClampNeg).map (fun i => Value.ref (h.length + 1 + i))) :: List.replicate n.toNatClampNeg (100, List.replicate k.toNatClampNeg (.int 0))), u + n.toNatClampNeg + n.toNatClampNeg * k.toNatClampNeg) else none
    | _ => none
  | _ => none
theorem zsum_split {b : Nat} {s T : State} {locs : List Loc} {k n : Nat} (hb : b ≤ s.heap.size) (h : s.sameButNew T locs k n) : zsum b T.heap = zsum b s.heap + ((T.heap.toList.drop s.heap.size).map (fun c => c.slots.size)).sum := by
  obtain ⟨-, h2, -, -, -, h6⟩ := h
  have hm : (T.heap.toList.take s.heap.size).map (fun c => c.slots.size) = s.heap.toList.map (fun c => c.slots.size) := by
    apply List.ext_getElem?
    intro i
    rw [List.getElem?_map, List.getElem?_map, List.getElem?_take, Array.getElem?_toList, Array.getElem?_toList]
    by_cases e : i < s.heap.size
    · rw [if_pos e]
      obtain ⟨c', e1, -, e3, -⟩ := h6 i _ (Array.getElem?_eq_getElem e)
      rw [e1, Array.getElem?_eq_getElem e]
      simp [e3]
    · rw [if_neg e, Array.getElem?_eq_none (by omega)]
  have hs : T.heap.toList.drop b = (T.heap.toList.take s.heap.size).drop b ++ T.heap.toList.drop s.heap.size := by
    have e1 : T.heap.toList = T.heap.toList.take s.heap.size ++ T.heap.toList.drop s.heap.size := (List.take_append_drop _ _).symm
    have e2 : (T.heap.toList.take s.heap.size).length = s.heap.size := by rw [List.length_take, Array.length_toList]; omega
    calc T.heap.toList.drop b = (T.heap.toList.take s.heap.size ++ T.heap.toList.drop s.heap.size).drop b := by rw [← e1]
      _ = _ := List.drop_append_of_le_length (by rw [e2]; exact hb)
  unfold zsum
  rw [hs, List.map_append, List.sum_append, List.map_drop, hm, ← List.map_drop]
theorem z_outer (c : ClassId) (N h0 : Nat) : ∀ i : Nat, Jvm.Free.Multi.outerC c N h0 i = arrV c N (fun j => if j < i then .ref (h0 + 1 + j) else .null)
  | 0 => by
    show ({ cls := c, slots := Array.replicate N .null, vm := .none } : Cell) = _
    rw [arrV_new]
    apply arrV_congr
    intro k _
    simp
  | i + 1 => by
    show (Jvm.Free.Multi.outerC c N h0 i).setSlot i (.ref (h0 + 1 + i)) = _
    rw [z_outer c N h0 i, arrV_store]
    apply arrV_congr
    intro j _
    unfold updV
    by_cases e : j = i
    · subst e
      simp
    · by_cases h : j < i
      · simp [e, h, Nat.lt_succ_of_lt h]
      · simp [e, h, show ¬ j < i + 1 by omega]
section zMkS
variable {p : Program} {l : Launch} {e : Env} {R : Room} {s : State} {m : MethodId} {args : Array Value} {below : List Frame} {meth : Method} {c : Code} {H : Heap} {locs : List Loc} {cells slots : Nat} {Q : State → Prop}
variable {cc : ByteArray} {D : va_G} {base : Nat} {τ : Nat → Nat} {own : String} {pc pc' a u u' u0 : Nat} {st st' : List Value} {ls : Array Slot} {h h' : List zC}
theorem va_S_push {A : Nat → Prop} {H0 : Heap} {x : Cell} (hS : va_S A H0 H locs) : va_S A H0 (H.push x) locs :=
  ⟨by have := hS.1; simp; omega, fun q h1 h2 => by rw [Array.getElem?_push, if_neg (by have := hS.1; omega)]; exact hS.2.1 q h1 h2, hS.2.2⟩
theorem zt_def (τ : Nat → Nat) (ty : FieldType) : zt τ (defaultValue ty) = defaultValue ty := by cases ty <;> rfl
theorem arr_new {cA : ClassId} {τ : Nat → Nat} {N : Nat} {v : Value} (hv : zt τ v = v) : ({ cls := cA, slots := Array.replicate N v, vm := .none } : Cell) = arrV cA (List.replicate N v).length (fun k => zt τ ((List.replicate N v).getD k .null)) := by
  rw [arrV_new, List.length_replicate]
  apply arrV_congr
  intro k hk
  rw [List.getD_eq_getElem?_getD, List.getElem?_replicate, if_pos hk]
  exact hv.symm
theorem arrOf_of {cA comp : ClassId} {kA : Class} {ty : FieldType} (h1 : s.vm.classes[cA]? = some kA) (h2 : kA.kind = .array comp ty) : ArrOfT s cA ty := fun n z => ⟨(fun k q => nomatch q), ⟨kA, h1, comp, h2⟩⟩
theorem cb8 (ty : FieldType) : componentBytes ty ≤ 8 := by cases ty <;> simp [componentBytes]
set_option maxHeartbeats 1000000 in
theorem zMk_ok {i : Instr} {n : Nat} (hx : p.tables.exec = Jvm.exec) (hb : c.code = cc) (hown : s.vm.findClass own = some m.cls) (hts : ∀ w ∈ zT, w.before args s = true) (hK : va_K D vwCl [] s) (hτ : zTau base τ) (hdg : decode cc pc = .ok (i, n)) (hn : zLen i = 0 ∨ n = zLen i) (hw : ∀ w ∈ zNk own i a, w.before args s = true)
    (hbase : base ≤ s.heap.size) (hc1 : cells + s.heap.size = H.size) (hc2 : slots + u0 = u) (hR1 : base + zCM ≤ R.cells + s.heap.size + zro) (hR2 : zSM ≤ R.slots + u0)
    (hI : zInv D base τ s h u H) (hS : va_S (fun q => base ≤ q) s.heap H locs) (hg : zMk i a pc st h u = some (pc', st', h', u'))
    (k : ∀ H1 cells1 slots1, zInv D base τ s h' u' H1 → va_S (fun q => base ≤ q) s.heap H1 locs → cells1 + s.heap.size = H1.size → slots1 + u0 = u' → W p l e R s m args below meth c H1 locs cells1 slots1 Q (F0 m pc' ls (st'.map (zt τ)))) : W p l e R s m args below meth c H locs cells slots Q (F0 m pc ls (st.map (zt τ))) := by
  have hd : zLen i ≠ 0 → n = zLen i := fun q => hn.resolve_left q
  have hI3 : H.size + zro = base + h.length := hI.2.2.1
  have hI2 : zro ≤ h.length := hI.2.1
  have hz : zro = 16 := rfl
  unfold zMk at hg
  split at hg
  · rename_i x
    split at hg
    · rename_i hc
      obtain ⟨ha, ha9, hL, hU⟩ := hc
      cases hg
      have hn3 : n = 3 := hd (by simp [zLen])
      subst hn3
      obtain ⟨rr, hr⟩ : ∃ rr, vwCl[a]? = some rr := ⟨vwCl[a], List.getElem?_eq_getElem ha⟩
      have hcn : zCn a = rr.2.2 := by unfold zCn; rw [hr]
      have hdf : zDef a = (List.range rr.2.2).map (fun k => defaultValue (zFT a k)) := by unfold zDef; rw [hr]
      have hKn := hK.1 _ _ hr
      have hw2 := hw
      unfold zNk at hw2
      rw [zNm_of hr] at hw2
      refine W.newc hx hb hown (hw2 _ List.mem_cons_self) (hw2 _ (List.mem_cons_of_mem _ List.mem_cons_self)) (hw2 _ (List.mem_cons_of_mem _ (List.mem_cons_of_mem _ List.mem_cons_self))) rfl hdg (by omega) (by omega) fun cC kC e1 e2 e3 e4 => ?_
      cases Option.some.inj (hKn.2.1.symm.trans e1)
      have hob : va_at D vwCl (H.size, .inr (a, (zDef a).map (zt τ))) (H.push (blank (D.1 a) kC)) := by
        refine ⟨rr, hr, (u_born (zFT a) hts (zIn _ _ hr) hKn e2 (H := H.push (blank (D.1 a) kC)) (by simp) (zTyOk _ _ hr)).to (fun k hk => ?_)⟩
        show _ = vp_V ((zDef a).map (zt τ)) k
        unfold vp_V
        rw [hdf, List.getD_eq_getElem?_getD, List.getElem?_map, List.getElem?_map, List.getElem?_range hk]
        exact (zt_def τ _).symm
      have hln : ∀ r : vw_C, vwCl[a]? = some r → (zDef a).length = r.2.2 := fun r2 hr2 => by
        cases hr.symm.trans hr2
        rw [hdf]
        simp
      obtain ⟨hI1, hta⟩ := zInv_push (c := (a, zDef a)) (n := zCn a) (cell := blank (D.1 a) kC) hτ hI (by rw [show (blank (D.1 a) kC).slots.size = kC.instanceTypes.size by simp [blank], e4, hcn]) hL hU (zAt.ofObj ha9 hob hln)
      have kk := k (H.push (blank (D.1 a) kC)) (cells + 1) (slots + zCn a) hI1 (va_S_push hS) (by simp; omega) (by omega)
      rw [List.map_cons] at kk
      have e9 : zt τ (.ref h.length) = .ref H.size := by show Value.ref (τ h.length) = _; rw [hta]
      rw [e9] at kk
      exact kk
    · cases hg
  · rename_i at1
    split at hg
    · rename_i n1 r
      split at hg
      · rename_i hc
        obtain ⟨ha, hty, hn0, hby, hL, hU⟩ := hc
        cases hg
        have hn3 : n = 2 := hd (by simp [zLen])
        subst hn3
        have hbb : n1.toNatClampNeg * componentBytes (newarray.typeOf at1) ≤ 536870912 := Nat.le_trans (Nat.mul_le_mul_left _ (cb8 _)) hby
        refine W.newa hx hb (hw _ List.mem_cons_self) rfl hdg rfl hn0 hbb (by omega) (by omega) fun cA kA comp e1 e2 e3 => ?_
        have hdv := zt_def τ (newarray.typeOf at1)
        obtain ⟨hI1, hta⟩ := zInv_push (c := (a, List.replicate n1.toNatClampNeg (defaultValue (newarray.typeOf at1)))) (n := n1.toNatClampNeg) (cell := { cls := cA, slots := Array.replicate n1.toNatClampNeg (defaultValue (newarray.typeOf at1)), vm := .none }) hτ hI (by simp) hL hU
          (zAt.ofArr (cA := cA) ha (by rw [arr_new hdv]; simp) (by rw [hty]; exact arrOf_of e2 e3) (by rw [hty]; cases at1 <;> exact e1))
        have kk := k _ (cells + 1) (slots + n1.toNatClampNeg) hI1 (va_S_push hS) (by simp; omega) (by omega)
        rw [List.map_cons] at kk
        have e9 : zt τ (.ref h.length) = .ref H.size := by show Value.ref (τ h.length) = _; rw [hta]
        rw [e9] at kk
        exact kk
      · cases hg
    · cases hg
  · rename_i x
    split at hg
    · rename_i n1 r
      split at hg
      · rename_i hc
        obtain ⟨ha, hty, hn0, hby, hL, hU⟩ := hc
        cases hg
        have hn3 : n = 3 := hd (by simp [zLen])
        subst hn3
        refine W.anew hx hb hown (hw _ List.mem_cons_self) (hw _ (List.mem_cons_of_mem _ List.mem_cons_self)) rfl hdg rfl hn0 hby (by omega) (by omega) fun cA kA comp e1 e2 e3 e4 => ?_
        obtain ⟨hI1, hta⟩ := zInv_push (c := (a, List.replicate n1.toNatClampNeg .null)) (n := n1.toNatClampNeg) (cell := { cls := cA, slots := Array.replicate n1.toNatClampNeg .null, vm := .none }) hτ hI (by simp) hL hU
          (zAt.ofArr (cA := cA) ha (by rw [arr_new (τ := τ) (v := .null) rfl]; simp) (by rw [hty]; exact arrOf_of e2 e3) (by rw [hty]; exact ⟨kA, comp, e2, e3, e4, e1⟩))
        have kk := k _ (cells + 1) (slots + n1.toNatClampNeg) hI1 (va_S_push hS) (by simp; omega) (by omega)
        rw [List.map_cons] at kk
        have e9 : zt τ (.ref h.length) = .ref H.size := by show Value.ref (τ h.length) = _; rw [hta]
        rw [e9] at kk
        exact kk
      · cases hg
    · cases hg
  · rename_i x d
    split at hg
    · rename_i k1 n1 r
      split at hg
      · rename_i hc
        obtain ⟨hd2, ha, hn0, hk0, hn9, hk9, hL, hU⟩ := hc
        cases hg
        subst hd2
        subst ha
        have hn3 : n = 4 := hd (by simp [zLen])
        subst hn3
        intro T hT X
        have hw1 := hw _ List.mem_cons_self
        have hw2 := hw _ (List.mem_cons_of_mem _ List.mem_cons_self)
        have hw3 := hw _ (List.mem_cons_of_mem _ (List.mem_cons_of_mem _ List.mem_cons_self))
        obtain ⟨vm₁, cA, comp, hW1, hfA, hfC, hO, hIn, X', step⟩ := X.multianewarray2F hx (ty := .int) hown hw1 hw2 hw3 (g := F0 m pc ls (.int k1 :: .int n1 :: r.map (zt τ))) rfl (by rw [hb]; exact hdg) rfl hn0 hk0 (by omega) (by show k1.toNatClampNeg * 4 ≤ _; omega) (by omega) rfl rfl (by omega) (by omega)
        have hTh : (T.setVm vm₁).heap = H := hT
        obtain ⟨f1, f2, -, f4⟩ := Jvm.Free.Multi.fill_facts (T.setVm vm₁) cA comp n1.toNatClampNeg k1.toNatClampNeg (defaultValue .int) n1.toNatClampNeg
        have f3 := fun (q : Nat) (hq : q < (T.setVm vm₁).heap.size) => Jvm.Free.Multi.fill_old (T.setVm vm₁) cA comp n1.toNatClampNeg k1.toNatClampNeg (defaultValue .int) (a := q) hq n1.toNatClampNeg
        have f5 := Jvm.Free.Multi.fill_inner (T.setVm vm₁) cA comp n1.toNatClampNeg k1.toNatClampNeg (defaultValue .int) n1.toNatClampNeg
        generalize hFd : Jvm.Free.Multi.fill (T.setVm vm₁) cA comp n1.toNatClampNeg k1.toNatClampNeg (defaultValue .int) n1.toNatClampNeg = F at X' step f1 f2 f3 f4 f5
        rw [hTh] at f1 f2 f3 f5
        have hsu : zsum base F.heap = u + n1.toNatClampNeg + n1.toNatClampNeg * k1.toNatClampNeg := by
          have hbs : base ≤ s.heap.size ∨ ¬ base ≤ s.heap.size := Classical.em _
          rcases hbs with hbs | hbs
          · have a1 : zsum base F.heap = zsum base s.heap + ((F.heap.toList.drop s.heap.size).map (fun c => c.slots.size)).sum := zsum_split (T := F.setVm s.vm) hbs X'.same
            have a2 : zsum base T.heap = zsum base s.heap + ((T.heap.toList.drop s.heap.size).map (fun c => c.slots.size)).sum := zsum_split (T := T.setVm s.vm) hbs X.same
            have a3 : F.slotsUsed = s.slotsUsed + ((F.heap.toList.drop s.heap.size).map (fun c => c.slots.size)).sum := X'.same.2.2.2.1
            have a4 : T.slotsUsed = s.slotsUsed + ((T.heap.toList.drop s.heap.size).map (fun c => c.slots.size)).sum := X.same.2.2.2.1
            have a5 : F.slotsUsed = T.slotsUsed + n1.toNatClampNeg + n1.toNatClampNeg * k1.toNatClampNeg := f4
            have a6 : zsum base T.heap = u := by rw [hT]; exact hI.2.2.2.1
            omega
          · exact absurd hbase hbs
        have hAO : ArrOfT s cA (.array .int) := fun n z => by
          obtain ⟨-, kk, q1, q2⟩ := (hO 0 0 0).1
          exact ⟨(fun k q => nomatch q), kk, q1, q2⟩
        have hAI : ArrOfT s comp .int := fun n z => by
          obtain ⟨-, kk, q1, q2⟩ := (hIn 0 .null).1
          exact ⟨(fun k q => nomatch q), kk, q1, q2⟩
        have hI1 : zInv D base τ s (h ++ ((104, (List.range n1.toNatClampNeg).map (fun i => Value.ref (h.length + 1 + i))) :: List.replicate n1.toNatClampNeg (100, List.replicate k1.toNatClampNeg (.int 0)))) (u + n1.toNatClampNeg + n1.toNatClampNeg * k1.toNatClampNeg) F.heap := by
          refine ⟨fun i c hic => ?_, by simp; omega, by simp; omega, hsu, by simp; omega, hU⟩
          rcases Nat.lt_or_ge i h.length with e | e
          · rw [List.getElem?_append_left e] at hic
            refine (hI.1 i c hic).kept (f3 _ ?_)
            rcases Nat.lt_or_ge i zro with e4 | e4
            · have := hτ.2.1 i e4; omega
            · have := hτ.1 i e4; omega
          · have hti : τ i = H.size + (i - h.length) := by have := hτ.1 i (Nat.le_trans hI2 e); omega
            rw [List.getElem?_append_right e] at hic
            rcases Nat.eq_zero_or_pos (i - h.length) with e2 | e2
            · rw [e2] at hic hti
              cases hic
              refine zAt.ofArr (cA := cA) (Nat.le_of_ble_eq_true rfl) ?_ hAO hfA
              rw [hti, Nat.add_zero, f2, z_outer]
              simp only [List.length_map, List.length_range]
              congr 1
              apply arrV_congr
              intro j hj
              rw [if_pos hj, List.getD_eq_getElem?_getD, List.getElem?_map, List.getElem?_range hj]
              show _ = Value.ref (τ (h.length + 1 + j))
              have e7 := hτ.1 (h.length + 1 + j) (by omega)
              have e8 : H.size + 1 + j = τ (h.length + 1 + j) := by omega
              rw [← e8]
            · obtain ⟨j, hj⟩ : ∃ j, i - h.length = j + 1 := ⟨i - h.length - 1, by omega⟩
              rw [hj, List.getElem?_cons_succ] at hic
              have hjn : j < n1.toNatClampNeg := by
                have := (List.getElem?_eq_some_iff.mp hic).1
                simpa using this
              rw [List.getElem?_replicate, if_pos hjn] at hic
              cases hic
              refine zAt.ofArr (cA := comp) (Nat.le_of_ble_eq_true rfl) ?_ hAI hfC
              rw [hti, hj, show H.size + (j + 1) = H.size + 1 + j by omega, f5 j hjn]
              exact congrArg some (arr_new (τ := τ) (v := .int 0) rfl)
        have hta : τ h.length = H.size := by have := hτ.1 _ hI2; omega
        have hS1 : va_S (fun q => base ≤ q) s.heap F.heap locs := ⟨by have := hS.1; omega, fun q h1 h2 => by rw [f3 q (by have := hS.1; omega)]; exact hS.2.1 q h1 h2, hS.2.2⟩
        obtain ⟨t, a1, b1⟩ := k F.heap (cells + 1 + n1.toNatClampNeg) (slots + n1.toNatClampNeg + n1.toNatClampNeg * k1.toNatClampNeg) hI1 hS1 (by omega) (by omega) F rfl X'
        refine ⟨t, step t ?_, b1⟩
        have e9 : zt τ (.ref h.length) = .ref T.heap.size := by show Value.ref (τ h.length) = _; rw [hta, hT]
        rw [List.map_cons, e9] at a1
        exact a1
      · cases hg
    · cases hg
  · cases hg
end zMkS
end
section
/-! ===== the small machine: its run, as what must hold for the rest to hold ===== -/
/-- the exception E at pc: the row of the table that takes it -/
def zHit (x : zI) (pc E : Nat) : Option (Nat × Nat × Nat × Nat × Nat) := (zTb x).find? (fun r => decide (r.1 ≤ pc) && decide (pc < r.2.1) && decide (zEx r.2.2.2.2 = zEx E))
/-- what a handler does first with what it caught: it lays it into a local (which is never read) -/
def zCat (zr : zRow) (zi : Nat → zI) (j pc E : Nat) (lv : List (Nat × Value)) : Option (Option (Nat × List (Nat × Value))) := match zHit (zi j) pc E with
  | none => some none
  | some r => match zr j r.2.2.1 with
    | some (.astore k, _, _) => if k < zMl (zi j) then some (some (r.2.2.1 + 2, (zs1 lv k .null).drop 1)) else none
    | _ => none
def zRt (ret : Option FieldType) (i : Instr) (st : List Value) : Option (Option Value) := match i with
  | .ireturn => match st, ret with
    | [.int v], some ty => if narrow ty (.int v) = .int v then some (some (.int v)) else none
    | _, _ => none
  | .lreturn => match st, ret with
    | [.long v], some .long => some (some (.long v))
    | _, _ => none
  | .dreturn => match st, ret with
    | [.double v], some .double => some (some (.double v))
    | _, _ => none
  | .areturn => match st, ret with
    | [.ref v], some (.object _) => some (some (.ref v))
    | [.null], some (.object _) => some (some .null)
    | [.ref v], some (.array _) => some (some (.ref v))
    | [.null], some (.array _) => some (some .null)
    | _, _ => none
  | .return_ => match st, ret with
    | [], none => some none
    | _, _ => none
  | _ => none
/-- a constant: of the kind b (0 int, 1 long, 2 double, 3 a cell of the start) -/
def zCo (i : Instr) (a b : Nat) : Value := match b with
  | 0 => .int (Int32.ofNat a)
  | 1 => .long (Int64.ofNat a)
  | 2 => .double (UInt64.ofNat a)
  | _ => .ref a
/-- the receiver's class, where there is one: b / 10 is 1 more than its place -/
def zRc (b : Nat) (As : List Value) (h : List zC) : Prop := b / 10 = 0 ∨ match As with
  | .ref q :: _ => match h[q]? with
    | some c => c.1 + 1 = b / 10 ∧ c.1 < 90
    | none => False
  | _ => False
abbrev zRes : Type := Option Value ⊕ Nat
abbrev zK : Type := zRes → List zC → Nat → Prop
def zW (zr : zRow) (zi : Nat → zI) : Nat → Nat → Nat → Nat → List (Nat × Value) → List Value → List zC → Nat → zK → Prop
  | 0, _, _, _, _, _, _, _, _ => False
  | f + 1, d, j, pc, lv, st, h, u, K =>
    match zr j pc with
    | none => False
    | some (i, a, b) =>
      match zKd i a b with
      | 0 => match zP (zMl (zi j)) i pc lv st with
        | some (pc', lv', st') => zW zr zi f d j pc' lv' st' h u K
        | none => False
      | 1 => match zG i a b pc st h with
        | some (pc', st', h') => zW zr zi f d j pc' lv st' h' u K
        | none => False
      | 2 => match zMk i a pc st h u with
        | some (pc', st', h', u') => zW zr zi f d j pc' lv st' h' u' K
        | none => False
      | 3 => zNp (zi a) ≤ st.length ∧ ((st.drop (zNp (zi a))).map (fun v => v.category)).sum ≤ 8 ∧ (lg_sl (st.take (zNp (zi a))).reverse).length ≤ zMl (zi a) ∧ zMl (zi a) ≤ 40 ∧ zRc b (st.take (zNp (zi a))).reverse h ∧
        match d with
        | 0 => False
        | d' + 1 => zW zr zi f d' a 0 (lv_args 0 (st.take (zNp (zi a))).reverse) [] h u (fun o h' u' => match o with
          | .inl v => zW zr zi f (d' + 1) j (pc + zLen i) lv (v.toList ++ st.drop (zNp (zi a))) h' u' K
          | .inr E => match zCat zr zi j pc E lv with
            | some (some (pc', lv')) => zW zr zi f (d' + 1) j pc' lv' [] h' u' K
            | some none => K (.inr E) h' u'
            | none => False)
      | 4 => match zRt (zRe (zi j)) i st with
        | some v => K (.inl v) h u
        | none => False
      | 5 => st = [] ∧ h.length + 1 ≤ zCM ∧ u + 6 ≤ zSM ∧ ∀ x y : Nat, x ≤ 1 → y ≤ 6 → K (.inr (a - 1000)) (h ++ List.replicate x (98, [])) (u + y)
      | 6 => match st with
        | .ref _ :: r => (r.map (fun v => v.category)).sum ≤ 8 ∧ zW zr zi f d j (pc + 3) lv r h u K
        | _ => False
      | 7 => zW zr zi f d j (pc + zLen i) lv (zCo i a b :: st) h u K
      | _ => False
theorem zW_K {zr : zRow} {zi : Nat → zI} : ∀ (f d j pc : Nat) (lv : List (Nat × Value)) (st : List Value) (h : List zC) (u : Nat) (K K' : zK), zW zr zi f d j pc lv st h u K → (∀ o h' u', K o h' u' → K' o h' u') → zW zr zi f d j pc lv st h u K'
  | 0, _, _, _, _, _, _, _, _, _, hw, _ => hw
  | f + 1, d, j, pc, lv, st, h, u, K, K', hw, hk => by
    have ih := @zW_K zr zi f
    unfold zW at hw ⊢
    split at hw
    · exact hw
    · split at hw
      · split at hw
        · exact ih _ _ _ _ _ _ _ _ _ hw hk
        · exact hw
      · split at hw
        · exact ih _ _ _ _ _ _ _ _ _ hw hk
        · exact hw
      · split at hw
        · exact ih _ _ _ _ _ _ _ _ _ hw hk
        · exact hw
      · obtain ⟨h1, h2, h3, h4, h5, hw⟩ := hw
        refine ⟨h1, h2, h3, h4, h5, ?_⟩
        split at hw
        · exact hw
        · refine ih _ _ _ _ _ _ _ _ _ hw (fun o h' u' q => ?_)
          split at q
          · exact ih _ _ _ _ _ _ _ _ _ q hk
          · split at q
            · exact ih _ _ _ _ _ _ _ _ _ q hk
            · exact hk _ _ _ q
            · exact q
      · split at hw
        · exact hk _ _ _ hw
        · exact hw
      · exact ⟨hw.1, hw.2.1, hw.2.2.1, fun x y hx hy => hk _ _ _ (hw.2.2.2 x y hx hy)⟩
      · split at hw
        · exact ⟨hw.1, ih _ _ _ _ _ _ _ _ _ hw.2 hk⟩
        · exact hw
      · exact ih _ _ _ _ _ _ _ _ _ hw hk
      · exact hw
end
section
/-! ===== the small machine: what stands around a run; contracts; what is behind a call ===== -/
theorem va_Nw.warmO {ty : FieldType} {s U : State} (hW : s.WarmedH U.vm) (h : va_Nw (.arrayOver ty) s) : va_Nw (.arrayOver ty) U := by
  have e := Cond.arrayOver_setVmC (args := #[]) (s := s) (vm' := U.vm) hW.alike ty
  have h1 : (Cond.arrayOver ty).before #[] (s.setVm U.vm) = true := by rw [e]; exact h
  exact h1
theorem va_Nw.warmP {x : MethodName} {s U : State} (hW : s.WarmedH U.vm) (hZ : va_Nw (.publicMethod x) s) : va_Nw (.publicMethod x) U := va_tabs rfl (rfl : (s.setVm U.vm).vm = U.vm) (by rw [Cond.publicMethod_setVm hW.alike]; exact hZ)
theorem va_Nw.warmR {x : MethodName} {s U : State} (hW : s.WarmedH U.vm) (hZ : va_Nw (.privateMethod x) s) : va_Nw (.privateMethod x) U := va_tabs rfl (rfl : (s.setVm U.vm).vm = U.vm) (by rw [Cond.privateMethod_setVm hW.alike]; exact hZ)
theorem va_Nw.warmH {a b d : String} {s U : State} (hW : s.WarmedH U.vm) (hZ : va_Nw (.unhidden a b d) s) : va_Nw (.unhidden a b d) U := va_tabs rfl (rfl : (s.setVm U.vm).vm = U.vm) (by rw [Cond.unhidden_setVm hW.alike]; exact hZ)
def zNws (U : State) : Prop := ∀ w, w ∈ lw_tbl → zxw w = true → va_Nw w U
theorem zNws.moved {s U : State} (hW : s.WarmedH U.vm) (h : zNws s) : zNws U := by
  intro w hw hx
  have h1 := h w hw hx
  cases w <;> first | exact va_Nw.warmF hW h1 | exact va_Nw.warmM hW h1 | exact va_Nw.warmC hW h1 | exact va_Nw.warmO hW h1 | exact va_Nw.warmD hW h1 | exact va_Nw.warmP hW h1 | exact va_Nw.warmR hW h1 | exact va_Nw.warmH hW h1 | (exact absurd hx (by simp [zxw]))
theorem zObjs.moved {s U : State} (hW : s.WarmedH U.vm) (h : zObjs s) : zObjs U := fun a r hr => va_Nw.warmC hW (h a r hr)
def zMi : Nat → Nat
  | 0 => 408
  | 1 => 415
  | _ => 420
def zMt : Nat → String
  | 0 => "there is no such number"
  | 1 => "the value is out of its range"
  | _ => "it is too late, or there are too many"
abbrev zAb (base : Nat) : Nat → Prop := fun q => base ≤ q
/-- what the whole run has around it: the two statics that a throw reads, the messages, the exceptions' classes, the lists' face -/
def zEnv (base : Nat) (U : State) (H : Heap) : Prop :=
  zObjs U ∧ zNws U ∧ vx_Zq Bundle.tN "UNASSIGNED_STACK" Bundle.steD (zAb base) U H ∧ vx_Zq Bundle.tN "SUPPRESSED_SENTINEL" Bundle.listD (zAb base) U H ∧
  (∀ k, ∃ sa, vk_R zCh (zMi k) (zMt k) sa U) ∧ (∀ k k', zEx k ≠ zEx k' → va_Nc (zEx k) (zEx k') U) ∧ (∀ x ∈ zIm, va_Fw "java/util/ArrayList" (zLi x.1 x.2) (zAr x.1 x.2) U)
theorem zEnv.moved {base : Nat} {s U : State} {H : Heap} (hW : s.WarmedH U.vm) (h : zEnv base s H) : zEnv base U H := by
  obtain ⟨h1, h2, h3, h4, h5, h6, h7⟩ := h
  exact ⟨h1.moved hW, h2.moved hW, h3.moved hW.alike, h4.moved hW.alike, fun k => by obtain ⟨sa, q⟩ := h5 k; exact ⟨sa, q.warm hW⟩, fun k k' q => (h6 k k' q).moved hW.alike, fun x hx => (h7 x hx).moved ⟨by simp [zLi], by simp [zLi]⟩ hW.alike⟩
theorem zEnv.kept {base : Nat} {s : State} {H H1 : Heap} (h : zEnv base s H) (hq : ∀ a : Nat, a < H.size → ¬ zAb base a → H1[a]? = H[a]?) : zEnv base s H1 := by
  obtain ⟨h1, h2, h3, h4, h5, h6, h7⟩ := h
  exact ⟨h1, h2, h3.kept hq, h4.kept hq, h5, h6, h7⟩
def zRunN (n : Nat) (p : Program) (l : Launch) (e : Env) (R : Room) (s : State) (m : MethodId) (args : Array Value) (below : List Frame) (meth : Method) (c : Code) (H : Heap) (locs : List Loc) (cells slots mc ms : Nat) (g : JFrame) (rest : List Value) (Qa : State → Outcome → State → Prop) (XC : String → State → State → Prop) (free : Addr → Prop) : Prop :=
  ∀ T : State, T.heap = H → Stand p l e R s m args below meth c T locs cells slots →
    (∃ (v : Option Value) (st₀ t T' : State) (L : List Loc), st₀.heap = H ∧ Stand p l e R s m args below meth c T' (locs ++ L) (cells + mc) (slots + ms) ∧ (∀ q ∈ L, free q.base) ∧ T'.heap = t.heap ∧ T'.vm = t.vm ∧ Qa st₀ (.returned v) t ∧
      Goes p e below T g T' { g with pc := g.pc + n, stack := v.toList ++ rest }) ∨
    (∃ (q : Addr) (st₀ t T' : State) (L : List Loc) (E : String) (ce : Cell), st₀.heap = H ∧ Stand p l e R s m args below meth c T' (locs ++ L) (cells + mc) (slots + ms) ∧ (∀ z ∈ L, free z.base) ∧ T'.heap = t.heap ∧ T'.vm = t.vm ∧ XC E st₀ t ∧ t.heap[q]? = some ce ∧ ce.vm = .none ∧ s.vm.findClass E = some ce.cls ∧
      Steps p.tables e below (T.setTop g) ((T'.setTop { g with stack := rest }).pushFrame (.throwing q)))
theorem z_tight {p : Program} {l : Launch} {e : Env} {R : Room} {s : State} {m : MethodId} {args : Array Value} {below : List Frame} {meth : Method} {c : Code} {T : State} {locs : List Loc} {cells slots k n : Nat} (X : Stand p l e R s m args below meth c T locs cells slots)
    (h1 : T.heap.size ≤ s.heap.size + k) (h2 : ((T.heap.toList.drop s.heap.size).map (fun c => c.slots.size)).sum ≤ n) : Stand p l e R s m args below meth c T locs k n :=
  { X with same := ⟨X.same.1, X.same.2.1, h1, X.same.2.2.2.1, h2, X.same.2.2.2.2.2⟩ }
def zPc (D : va_G) (base : Nat) (τ : Nat → Nat) (h : List zC) (u : Nat) (As : List Value) : Array Value → State → Prop := fun v U => v = (As.map (zt τ)).toArray ∧ zInv D base τ U h u U.heap ∧ va_K D vwCl [] U ∧ zEnv base U U.heap
def zQc (D : va_G) (base : Nat) (τ : Nat → Nat) (K : zK) : Array Value → State → Outcome → State → Prop := fun _ st oc t => ∃ (v : Option Value) (h' : List zC) (u' : Nat), oc = .returned (v.map (zt τ)) ∧ K (.inl v) h' u' ∧ zInv D base τ t h' u' t.heap ∧ va_F (zAb base) st t
def zXc (D : va_G) (base : Nat) (τ : Nat → Nat) (K : zK) : String → State → State → Prop := fun E st t => ∃ (k : Nat) (h' : List zC) (u' : Nat), zEx k = E ∧ K (.inr k) h' u' ∧ zInv D base τ t h' u' t.heap ∧ va_F (zAb base) st t
theorem zPc_blind {D : va_G} {base : Nat} {τ : Nat → Nat} {h : List zC} {u : Nat} {As : List Value} : FrameBlind (zPc D base τ h u As) := fun a U g mk q => by
  obtain ⟨q1, q2, q3, q4⟩ := q
  exact ⟨q1, zInv.moved (s := U) (U := U.calling g mk a) (Vm.Alike.refl U.vm) q2, va_K.moved (u := U) (U := U.calling g mk a) (Vm.Alike.refl U.vm) q3, zEnv.moved (s := U) (U := U.calling g mk a) (State.WarmedH.refl U) q4⟩
section zAft
variable {p : Program} {l : Launch} {e : Env} {R : Room} {s : State} {m : MethodId} {args : Array Value} {below : List Frame} {meth : Method} {c : Code} {H : Heap} {locs : List Loc} {cells slots : Nat} {Q : State → Prop}
variable {D : va_G} {base : Nat} {τ : Nat → Nat} {pc n mc ms u0 : Nat} {st0 rest : List Value} {ls : Array Slot} {K : zK} {a : Array Value}
theorem z_after (hr : zRunN n p l e R s m args below meth c H locs cells slots mc ms (F0 m pc ls st0) rest (zQc D base τ K a) (zXc D base τ K) (zAb base)) (hS : va_S (zAb base) s.heap H locs) (hb : base ≤ s.heap.size) (hu0 : zsum base s.heap = u0)
    (kk : ∀ (v : Option Value) (h' : List zC) (u' : Nat) (H1 : Heap) (locs1 : List Loc) (cells1 slots1 : Nat), K (.inl v) h' u' → zInv D base τ s h' u' H1 → va_S (zAb base) s.heap H1 locs1 → cells1 + s.heap.size = H1.size → slots1 + u0 = u' → W p l e R s m args below meth c H1 locs1 cells1 slots1 Q (F0 m (pc + n) ls ((v.map (zt τ)).toList ++ rest)))
    (kx : ∀ (k : Nat) (h' : List zC) (u' : Nat) (H1 : Heap) (locs1 : List Loc) (cells1 slots1 : Nat) (q : Addr) (ce : Cell), K (.inr k) h' u' → zInv D base τ s h' u' H1 → va_S (zAb base) s.heap H1 locs1 → cells1 + s.heap.size = H1.size → slots1 + u0 = u' → H1[q]? = some ce → ce.vm = .none → s.vm.findClass (zEx k) = some ce.cls → vx_W p l e R s m args below meth c H1 locs1 cells1 slots1 Q (F0 m pc ls rest) q) :
    W p l e R s m args below meth c H locs cells slots Q (F0 m pc ls st0) := by
  intro T hT X
  rcases hr T hT X with ⟨v, st₀, t, T', L, h0, X', hL, e1, e2, ⟨v1, h', u', hv, hKv, hI, hF⟩, st⟩ | ⟨q, st₀, t, T', L, E, ce, h0, X', hL, e1, e2, ⟨k, h', u', hE, hKv, hI, hF⟩, hce, hcv, hcl, st⟩
  · cases hv
    obtain ⟨k1, k2, k3⟩ := vx_keep h0 e1 hS (A1 := zAb base) (fun _ _ q => q) (fun _ q => q) hL hF
    have hal : t.vm.Alike s.vm := by rw [← e2]; exact X'.warmed.alike.symm
    have hI' : zInv D base τ s h' u' T'.heap := by rw [e1]; exact hI.moved hal
    have hz := X'.same.2.1
    have hz1 : s.heap.size ≤ T'.heap.size := hz
    have hsp := zsum_split (b := base) hb X'.same
    have hsp1 : zsum base T'.heap = zsum base s.heap + ((T'.heap.toList.drop s.heap.size).map (fun c => c.slots.size)).sum := hsp
    rw [hI'.2.2.2.1, hu0] at hsp1
    have X2 := z_tight X' (k := T'.heap.size - s.heap.size) (n := u' - u0) (by omega) (by omega)
    obtain ⟨t2, a1, b1⟩ := kk v1 h' u' T'.heap (locs ++ L) (T'.heap.size - s.heap.size) (u' - u0) hKv hI' k3 (by omega) (by omega) T' rfl X2
    exact ⟨t2, st t2 a1, b1⟩
  · subst hE
    obtain ⟨k1, k2, k3⟩ := vx_keep h0 e1 hS (A1 := zAb base) (fun _ _ q => q) (fun _ q => q) hL hF
    have hal : t.vm.Alike s.vm := by rw [← e2]; exact X'.warmed.alike.symm
    have hI' : zInv D base τ s h' u' T'.heap := by rw [e1]; exact hI.moved hal
    have hz := X'.same.2.1
    have hz1 : s.heap.size ≤ T'.heap.size := hz
    have hsp := zsum_split (b := base) hb X'.same
    have hsp1 : zsum base T'.heap = zsum base s.heap + ((T'.heap.toList.drop s.heap.size).map (fun c => c.slots.size)).sum := hsp
    rw [hI'.2.2.2.1, hu0] at hsp1
    have X2 := z_tight X' (k := T'.heap.size - s.heap.size) (n := u' - u0) (by omega) (by omega)
    obtain ⟨t2, a1, b1⟩ := kx k h' u' T'.heap (locs ++ L) (T'.heap.size - s.heap.size) (u' - u0) q ce hKv hI' k3 (by omega) (by omega) (by rw [e1]; exact hce) hcv hcl T' rfl X2
    exact ⟨t2, st.trans a1, b1⟩
end zAft
end
section
/-! ===== the small machine's run is the machine's ===== -/
def zFr (d : Nat) : Nat := d + 16
def zLo (d : Nat) : Nat := 80 * d + 400
def zRm (d : Nat) (h : List zC) (u : Nat) : Room := { frames := zFr d, cells := zCM - h.length, slots := zSM - u, locals := zLo d }
/-- the contract of a method at these arguments and this heap -/
def zCtr (l : Launch) (zi : Nat → zI) (D : va_G) (base : Nat) (τ : Nat → Nat) (d j : Nat) (As : List Value) (h : List zC) (u : Nat) (K : zK) : Prop :=
  vx_Met l (zYn (zi j)) (zCw (zi j) :: zT) (zRm d h u) (zPc D base τ h u As) (zQc D base τ K) (zXc D base τ K) (zRm d h u).cells (zRm d h u).slots (zAb base)
/-- what a row of the method j at pc may rest on, of the state that it runs in -/
def zFx (zi : Nat → zI) (p : Program) (R : Room) (s : State) (m : MethodId) (args : Array Value) (meth : Method) (c : Code) (D : va_G) (base : Nat) (τ : Nat → Nat) (u0 j d : Nat) : Prop :=
  p.tables.exec = Jvm.exec ∧ c.code = zBy (zi j) ∧ c.maxLocals = zMl (zi j) ∧ s.vm.findClass (zYn (zi j)).cls = some m.cls ∧ (∀ w ∈ zT, w.before args s = true) ∧ meth.name = (zYn (zi j)).name ∧ c.exceptionTable.toList = tableOf (zHh (zi j)) ∧
  va_K D vwCl [] s ∧ zEnv base s s.heap ∧ zTau base τ ∧ base ≤ s.heap.size ∧ base + zCM ≤ R.cells + s.heap.size + zro ∧ zSM ≤ R.slots + u0 ∧ zFr d ≤ R.frames ∧ zLo d ≤ R.locals ∧ zsum base s.heap = u0
/-- a call's place: the callee's contract gives the run -/
def zSite (l : Launch) (zi : Nat → zI) (j : Nat) (i : Instr) (a b : Nat) : Prop :=
  ∀ (p : Program) (e : Env) (R : Room) (s : State) (m : MethodId) (args : Array Value) (below : List Frame) (meth : Method) (c : Code) (H : Heap) (locs : List Loc) (cells slots pc base : Nat) (ls : Array Slot) (As rest : List Value) (rm : Room) (Pc : Array Value → State → Prop) (Qc : Array Value → State → Outcome → State → Prop) (XC : String → State → State → Prop) (free : Addr → Prop),
    p.tables.exec = Jvm.exec → c.code = zBy (zi j) → c.maxLocals = zMl (zi j) → s.vm.findClass (zYn (zi j)).cls = some m.cls → (∀ w ∈ zT, w.before args s = true) → zEnv base s s.heap →
    decode (zBy (zi j)) pc = .ok (i, zLen i) → ls.size = zMl (zi j) → As.length = zNp (zi a) → (rest.map (fun v => v.category)).sum ≤ 8 →
    vx_Met l (zYn (zi a)) (zCw (zi a) :: zT) rm Pc Qc XC rm.cells rm.slots free → FrameBlind Pc → (∀ U : State, U.heap = H → s.WarmedH U.vm → Pc As.toArray U) →
    rm.frames + 1 ≤ R.frames → 8 + (zMl (zi a) + 11) + rm.locals ≤ R.locals → cells + rm.cells ≤ R.cells → slots + rm.slots ≤ R.slots →
    (b / 10 = 0 ∨ ∃ (q : Nat) (As2 : List Value) (cellB : Cell) (r : vw_C), As = .ref q :: As2 ∧ H[q]? = some cellB ∧ cellB.vm.isStatics = false ∧ vwCl[b / 10 - 1]? = some r ∧ s.vm.findClass r.1 = some cellB.cls ∧ ClassAt s r.1 cellB.cls) →
    zRunN (zLen i) p l e R s m args below meth c H locs cells slots rm.cells rm.slots (F0 m pc ls (As.reverse ++ rest)) rest (Qc As.toArray) XC free
/-- a constant's place -/
def zCst (l : Launch) (zi : Nat → zI) (j : Nat) (i : Instr) (a b : Nat) : Prop :=
  ∀ (p : Program) (e : Env) (R : Room) (s : State) (m : MethodId) (args : Array Value) (below : List Frame) (meth : Method) (c : Code) (H : Heap) (locs : List Loc) (cells slots pc base u : Nat) (D : va_G) (τ : Nat → Nat) (h : List zC) (Q : State → Prop) (ls : Array Slot) (rest : List Value),
    p.tables.exec = Jvm.exec → c.code = zBy (zi j) → s.vm.findClass (zYn (zi j)).cls = some m.cls → (∀ w ∈ zT, w.before args s = true) → zEnv base s s.heap → zInv D base τ s h u H → va_S (zAb base) s.heap H locs → zTau base τ →
    decode (zBy (zi j)) pc = .ok (i, zLen i) → W p l e R s m args below meth c H locs cells slots Q (F0 m (pc + zLen i) ls (zt τ (zCo i a b) :: rest)) → W p l e R s m args below meth c H locs cells slots Q (F0 m pc ls rest)
/-- a throw's place: the five instructions that make the exception and throw it -/
def zBlk (l : Launch) (zi : Nat → zI) (j pc E : Nat) : Prop :=
  ∀ (p : Program) (e : Env) (R : Room) (s : State) (m : MethodId) (args : Array Value) (below : List Frame) (meth : Method) (c : Code) (H : Heap) (locs : List Loc) (cells slots base mc ms : Nat) (ls : Array Slot) (rest : List Value) (Qc : Array Value → State → Outcome → State → Prop) (XC : String → State → State → Prop),
    p.tables.exec = Jvm.exec → c.code = zBy (zi j) → s.vm.findClass (zYn (zi j)).cls = some m.cls → (∀ w ∈ zT, w.before args s = true) → zEnv base s s.heap → va_S (zAb base) s.heap H locs → c.exceptionTable.toList = tableOf (zHh (zi j)) → ls.size = c.maxLocals → rest = [] →
    16 ≤ R.frames → 400 ≤ R.locals → cells + 1 ≤ R.cells → slots + 6 ≤ R.slots → meth.locks = false →
    (∀ t : State, s.vm.Alike t.vm → H.size ≤ t.heap.size → (∀ q : Nat, q < H.size → t.heap[q]? = H[q]?) → XC (zEx E) s t) → cells + 1 ≤ mc → slots + 6 ≤ ms →
    W p l e R s m args below meth c H locs cells slots (vx_MQ below Qc XC args s mc ms (zAb base)) (F0 m pc ls rest)
/-- what is to be known of each row of the tables -/
def zVr (l : Launch) (zi : Nat → zI) (j pc : Nat) (i : Instr) (a b : Nat) : Prop :=
  (∃ n, decode (zBy (zi j)) pc = .ok (i, n) ∧ (zLen i = 0 ∨ n = zLen i)) ∧
  match zKd i a b with
  | 0 => True
  | 1 => (∀ w ∈ zNg (zYn (zi j)).cls i a b, zWd w) ∧ zSg (zYn (zi j)).cls (zYn (zi j)).name i a b
  | 2 => ∀ w ∈ zNk (zYn (zi j)).cls i a, zWd w
  | 3 => zSite l zi j i a b
  | 4 => True
  | 5 => zBlk l zi j pc (a - 1000) ∧ zTb (zi j) = []
  | 6 => ∃ x, i = .invokespecial x ∧ zWd (.methodLink (zYn (zi j)).cls x objectInit)
  | 7 => zCst l zi j i a b
  | _ => True
def zVm (zi : Nat → zI) (j : Nat) : Prop := plainName (zYn (zi j)).cls = true ∧ ∀ r ∈ zTb (zi j), r.2.2.2.1 ≠ 0 ∧ zWd (.classLink (zYn (zi j)).cls r.2.2.2.1 (zEx r.2.2.2.2)) ∧ zWd (.castable (zEx r.2.2.2.2) (zEx r.2.2.2.2))
def zVal (l : Launch) (zr : zRow) (zi : Nat → zI) : Prop :=
  (∀ j pc i a b, zr j pc = some (i, a, b) → zVr l zi j pc i a b) ∧ (∀ j, zr j 0 ≠ none → zVm zi j) ∧ (∀ j pc, zr j pc ≠ none → zr j 0 ≠ none) ∧ zWd (.instanceMethod objectInit) ∧ zWd (.code objectInit ⟨#[0xb1]⟩ 1 none)
theorem zWd_ok {base : Nat} {s : State} {args : Array Value} {H : Heap} {w : Cond} (hts : ∀ w ∈ zT, w.before args s = true) (hE : zEnv base s H) (h : zWd w) : w.before args s = true := by
  rcases h with h | ⟨h1, h2⟩
  · exact hts w h
  · have q := hE.2.1 w h1 h2
    cases w <;> first | exact va_Nw.use rfl q | exact q | (exact absurd h2 (by simp [zxw]))
/-- a run of the small machine gives one of the machine, for f steps -/
def zSimAt (l : Launch) (zr : zRow) (zi : Nat → zI) (f : Nat) : Prop :=
  ∀ (d j pc : Nat) (lv : List (Nat × Value)) (st : List Value) (h : List zC) (u : Nat) (K : zK), zW zr zi f d j pc lv st h u K →
    ∀ (p : Program) (e : Env) (R : Room) (s : State) (m : MethodId) (args : Array Value) (below : List Frame) (meth : Method) (c : Code) (H : Heap) (locs : List Loc) (cells slots : Nat) (Q : State → Prop) (ls : Array Slot) (D : va_G) (base : Nat) (τ : Nat → Nat) (u0 : Nat),
    zFx zi p R s m args meth c D base τ u0 j d → zInv D base τ s h u H → va_S (zAb base) s.heap H locs → cells + s.heap.size = H.size → slots + u0 = u → lv_has ls (zMl (zi j)) (zlm τ lv) →
    (∀ (pc : Nat) (i : Instr) (a b : Nat) (st : List Value) (v : Option Value) (h : List zC) (u : Nat) (H : Heap) (locs : List Loc) (cells slots : Nat) (ls : Array Slot), zr j pc = some (i, a, b) → zRt (zRe (zi j)) i st = some v → K (.inl v) h u → zInv D base τ s h u H → va_S (zAb base) s.heap H locs → cells + s.heap.size = H.size → slots + u0 = u → W p l e R s m args below meth c H locs cells slots Q (F0 m pc ls (st.map (zt τ)))) →
    (∀ (pc E : Nat) (h : List zC) (u : Nat) (H : Heap) (locs : List Loc) (cells slots : Nat) (ls : Array Slot) (rest : List Value) (q : Addr) (ce : Cell), zHit (zi j) pc E = none → K (.inr E) h u → zInv D base τ s h u H → va_S (zAb base) s.heap H locs → cells + s.heap.size = H.size → slots + u0 = u → H[q]? = some ce → ce.vm = .none → s.vm.findClass (zEx E) = some ce.cls → vx_W p l e R s m args below meth c H locs cells slots Q (F0 m pc ls rest) q) →
    (∀ (pc : Nat) (i : Instr) (a b : Nat) (st : List Value) (h : List zC) (u : Nat) (H : Heap) (locs : List Loc) (cells slots : Nat) (ls : Array Slot), zr j pc = some (i, a, b) → zKd i a b = 5 → st = [] → h.length + 1 ≤ zCM → u + 6 ≤ zSM → (∀ x y : Nat, x ≤ 1 → y ≤ 6 → K (.inr (a - 1000)) (h ++ List.replicate x (98, [])) (u + y)) → zInv D base τ s h u H → va_S (zAb base) s.heap H locs → cells + s.heap.size = H.size → slots + u0 = u → ls.size = zMl (zi j) → W p l e R s m args below meth c H locs cells slots Q (F0 m pc ls (st.map (zt τ)))) →
    W p l e R s m args below meth c H locs cells slots Q (F0 m pc ls (st.map (zt τ)))
end
section
/-! ===== from a run for f steps to the contract of a method ===== -/
theorem lv_args_map (τ : Nat → Nat) : ∀ (As : List Value) (k : Nat), lv_args k (As.map (zt τ)) = zlm τ (lv_args k As)
  | [], _ => rfl
  | v :: r, k => by
    show (k, zt τ v) :: lv_args (if (zt τ v).category = 2 then k + 2 else k + 1) (r.map (zt τ)) = _
    rw [zt_cat, lv_args_map τ r]
    rfl
theorem lg_sl_map (τ : Nat → Nat) : ∀ As : List Value, (lg_sl (As.map (zt τ))).length = (lg_sl As).length
  | [] => rfl
  | v :: r => by
    have ih := lg_sl_map τ r
    unfold lg_sl at ih ⊢
    rw [List.map_cons, List.flatMap_cons, List.flatMap_cons, List.length_append, List.length_append, ih, zt_cat]
    by_cases h : v.category = 2
    · rw [if_pos h, if_pos h]; rfl
    · rw [if_neg h, if_neg h]; rfl
theorem zsum_ext {b : Nat} {H T : Heap} (hb : b ≤ H.size) (hz : H.size ≤ T.size) (h : ∀ q : Nat, q < H.size → T[q]? = H[q]?) : zsum b T = zsum b H + ((T.toList.drop H.size).map (fun c => c.slots.size)).sum := by
  have hm : T.toList.take H.size = H.toList := by
    apply List.ext_getElem?
    intro i
    rw [List.getElem?_take, Array.getElem?_toList, Array.getElem?_toList]
    by_cases e : i < H.size
    · rw [if_pos e, h i e]
    · rw [if_neg e, Array.getElem?_eq_none (by omega)]
  have hs : T.toList.drop b = H.toList.drop b ++ T.toList.drop H.size := by
    have e1 : T.toList = H.toList ++ T.toList.drop H.size := by rw [← hm]; exact (List.take_append_drop _ _).symm
    calc T.toList.drop b = (H.toList ++ T.toList.drop H.size).drop b := by rw [← e1]
      _ = _ := List.drop_append_of_le_length (by rw [Array.length_toList]; exact hb)
  unfold zsum
  rw [hs, List.map_append, List.sum_append]
section zMt
variable {p : Program} {l : Launch} {e : Env} {R : Room} {s : State} {m : MethodId} {args : Array Value} {below : List Frame} {meth : Method} {c : Code} {H : Heap} {locs : List Loc} {cells slots : Nat} {Q : State → Prop}
variable {D : va_G} {base : Nat} {τ : Nat → Nat}
theorem z_ret {cc : ByteArray} {ret : Option FieldType} {Qc : Array Value → State → Outcome → State → Prop} {free : Addr → Prop} {i : Instr} {st : List Value} {v : Option Value} {pc n : Nat} {ls : Array Slot} (hx : p.tables.exec = Jvm.exec) (hb : c.code = cc) (hr : meth.sig.returnType = ret) (hlocks : meth.locks = false) (hdg : decode cc pc = .ok (i, n)) (hn : zLen i = 0 ∨ n = zLen i)
    (h : zRt ret i st = some v) (hq : ∀ t : State, t.heap = H → s.WarmedH t.vm → Qc args s (.returned (v.map (zt τ))) t) (hf : ∀ q ∈ locs, free q.base) : W p l e R s m args below meth c H locs cells slots (MQ below Qc args s cells slots free) (F0 m pc ls (st.map (zt τ))) := by
  have hd : zLen i ≠ 0 → decode cc pc = .ok (i, zLen i) := fun q => by
    rcases hn with hn | hn
    · exact absurd hn q
    · rw [← hn]; exact hdg
  unfold zRt at h
  split at h
  · split at h
    · split at h
      · rename_i hnr
        cases h
        exact W.zret hx hb hr hnr hq hf (hd (by simp [zLen])) hlocks
      · cases h
    · cases h
  · split at h
    · cases h
      exact W.lret hx hb hr hq hf (hd (by simp [zLen])) hlocks
    · cases h
  · split at h
    · cases h
      exact W.dret hx hb hr hq hf (hd (by simp [zLen])) hlocks
    · cases h
  · split at h
    · cases h
      exact W.aret hx hb hr (Or.inl ⟨_, rfl⟩) (Or.inr ⟨_, rfl⟩) hq hf (hd (by simp [zLen])) hlocks
    · cases h
      exact W.aret hx hb hr (Or.inl ⟨_, rfl⟩) (Or.inl rfl) hq hf (hd (by simp [zLen])) hlocks
    · cases h
      exact W.aret hx hb hr (Or.inr ⟨_, rfl⟩) (Or.inr ⟨_, rfl⟩) hq hf (hd (by simp [zLen])) hlocks
    · cases h
      exact W.aret hx hb hr (Or.inr ⟨_, rfl⟩) (Or.inl rfl) hq hf (hd (by simp [zLen])) hlocks
    · cases h
  · split at h
    · cases h
      exact W.vret hx hb hr hq hf (hd (by simp [zLen])) hlocks
    · cases h
  · cases h
theorem z_mq {Qc : Array Value → State → Outcome → State → Prop} {XC XC' : String → State → State → Prop} {free : Addr → Prop} {k n mc ms : Nat} {t : State} (h : vx_MQ below Qc XC args s k n free t) (hk : k ≤ mc) (hn : n ≤ ms)
    (hx : ∀ (E : String) (t : State) (L : List Loc), XC E s t → s.WarmedH t.vm → s.sameButNew ({ t with vm := s.vm } : State) L k n → (∀ z ∈ L, free z.base) → XC' E s t) : vx_MQ below Qc XC' args s mc ms free t := by
  obtain ⟨o, h1, h2, h3⟩ := h
  refine ⟨o, h1, h2, ?_⟩
  rcases h3 with ⟨h3, L, ⟨q1, q2, q3⟩, h5⟩ | ⟨q, h3, E, ce, L, g1, g2, g3, g4, g5, g6, g7⟩
  · exact Or.inl ⟨h3, L, ⟨q1, q2, q3.mono hk hn⟩, h5⟩
  · exact Or.inr ⟨q, h3, E, ce, L, hx E t L g1 g5 g6 g7, g2, g3, g4, g5, g6.mono hk hn, g7⟩
end zMt
set_option maxHeartbeats 1000000 in
theorem z_met {l : Launch} {zr : zRow} {zi : Nat → zI} (hV : zVal l zr zi) (f : Nat) (hsim : zSimAt l zr zi f) {D : va_G} {base : Nat} {τ : Nat → Nat} (hτ : zTau base τ) {d j : Nat} {As : List Value} {h : List zC} {u : Nat} {K : zK}
    (hw : zW zr zi f d j 0 (lv_args 0 As) [] h u K) (hlg : (lg_sl As).length ≤ zMl (zi j)) : zCtr l zi D base τ d j As h u K := by
  have hvm : zVm zi j := by
    refine hV.2.1 j (fun q => ?_)
    cases f with
    | zero => exact hw
    | succ f =>
      unfold zW at hw
      rw [q] at hw
      exact hw
  have body : ∀ p e s m args below meth c s₁, BodyLoose p l (zYn (zi j)) (headSpec (zCw (zi j) :: zT) (zRm d h u)) (zBy (zi j)) (zMl (zi j)) (zRe (zi j)) e s m args below meth c s₁ → c.maxLocals = zMl (zi j) → c.exceptionTable.toList = tableOf (zHh (zi j)) → zPc D base τ h u As args s →
      W p l e (headSpec (zCw (zi j) :: zT) (zRm d h u)).room s m args below meth c s.heap [] 0 0 (vx_MQ below (zQc D base τ K) (zXc D base τ K) args s (zRm d h u).cells (zRm d h u).slots (zAb base)) (entryFrame m args (zMl (zi j))) := by
    intro p e s m args below meth c s₁ B hml htb hPc
    obtain ⟨rfl, hI, hK, hE⟩ := hPc
    have hx := B.exec
    have hb := B.bytes
    have hr := B.returns
    have hts0 := atoms_spec (ws := zCw (zi j) :: zT) B.pre
    have hts : ∀ w ∈ zT, w.before (As.map (zt τ)).toArray s = true := fun w hw => hts0 w (List.mem_cons_of_mem _ hw)
    have hown : s.vm.findClass (zYn (zi j)).cls = some m.cls := findClass_of_methodNamed B.named
    have hlocks := B.notSynchronized
    have hnm : meth.name = (zYn (zi j)).name := (name_of_methodNamed B.named B.method).1
    have hI3 : s.heap.size + zro = base + h.length := hI.2.2.1
    have hI2 : zro ≤ h.length := hI.2.1
    have hI5 : h.length ≤ zCM := hI.2.2.2.2.1
    have hI6 : u ≤ zSM := hI.2.2.2.2.2
    have hbs : base ≤ s.heap.size := by omega
    have hl := lv_entry (As.map (zt τ)) (n := zMl (zi j)) (by rw [lg_sl_map]; exact hlg)
    rw [lg_entry_eq]
    generalize (lg_sl (As.map (zt τ)) ++ List.replicate (zMl (zi j) - (lg_sl (As.map (zt τ))).length) Slot.unset).toArray = ls at hl ⊢
    rw [lv_args_map] at hl
    have hF : zFx zi p (zRm d h u) s m (As.map (zt τ)).toArray meth c D base τ u j d := ⟨hx, hb, hml, hown, hts, hnm, htb, hK, hE, hτ, hbs, by show base + zCM ≤ (zCM - h.length) + s.heap.size + zro; omega, by show zSM ≤ (zSM - u) + u; omega, Nat.le_refl _, Nat.le_refl _, hI.2.2.2.1⟩
    refine hsim d j 0 (lv_args 0 As) [] h u K hw p e (zRm d h u) s m _ below meth c s.heap [] 0 0 _ ls D base τ u hF hI va_S.rf (by omega) (by omega) hl ?_ ?_ ?_
    · intro pc i a b st v h' u' H' locs' cells' slots' ls' hrow hrt hKv hI' hS' hc1 hc2
      obtain ⟨⟨n, hdg, hn⟩, -⟩ := hV.1 j pc i a b hrow
      have e3 : H'.size + zro = base + h'.length := hI'.2.2.1
      have e5 : h'.length ≤ zCM := hI'.2.2.2.2.1
      have e6 : u' ≤ zSM := hI'.2.2.2.2.2
      refine W.widen (k := (zRm d h u).cells) (n := (zRm d h u).slots) (by show cells' ≤ zCM - h.length; omega) (by show slots' ≤ zSM - u; omega) ?_
      refine vx_ret ?_
      exact z_ret hx hb hr hlocks hdg hn hrt (fun t ht hW => ⟨v, h', u', rfl, hKv, by rw [ht]; exact hI'.moved hW.alike, hS'.F ht⟩) hS'.2.2
    · intro pc E h' u' H' locs' cells' slots' ls' rest q ce hhit hKv hI' hS' hc1 hc2 hce hcv hcl
      have e3 : H'.size + zro = base + h'.length := hI'.2.2.1
      have e5 : h'.length ≤ zCM := hI'.2.2.2.2.1
      have e6 : u' ≤ zSM := hI'.2.2.2.2.2
      refine vx_outP hown hlocks ?_ hce hcv hcl (fun t ht hal => ⟨E, h', u', rfl, hKv, by rw [ht]; exact hI'.moved hal, hS'.F ht⟩) hS'.2.2 (by show cells' ≤ zCM - h.length; omega) (by show slots' ≤ zSM - u; omega)
      intro z hz
      rw [htb] at hz
      unfold tableOf zHh at hz
      rw [List.map_map] at hz
      obtain ⟨r, hr1, rfl⟩ := List.mem_map.mp hz
      have hno := List.find?_eq_none.mp hhit r hr1
      by_cases hcov : covers ((fun q : Nat × Nat × Nat × Nat => (⟨q.1, q.2.1, q.2.2.1, q.2.2.2⟩ : ExceptionTableEntry)) (r.1, r.2.1, r.2.2.1, r.2.2.2.1)) pc = true
      · obtain ⟨v1, v2, -⟩ := hvm.2 r hr1
        refine Or.inr ⟨v1, zEx r.2.2.2.2, zWd_ok hts hE v2, hE.2.2.2.2.2.1 E r.2.2.2.2 (fun q => hno ?_)⟩
        have hc9 : (decide (r.1 ≤ pc) && decide (pc < r.2.1)) = true := by
          simpa [covers] using hcov
        rw [hc9, q]
        simp
      · exact Or.inl (by simpa using hcov)
    · intro pc i a b st h' u' H' locs' cells' slots' ls' hrow hkd hst hL hU hKv hI' hS' hc1 hc2 hls
      obtain ⟨-, hv⟩ := hV.1 j pc i a b hrow
      rw [hkd] at hv
      obtain ⟨hv, htb0⟩ := hv
      subst hst
      have e3 : H'.size + zro = base + h'.length := hI'.2.2.1
      have e2 : zro ≤ h'.length := hI'.2.1
      have hbH : base ≤ H'.size := by omega
      have hz16 : zro = 16 := rfl
      intro T hT X
      obtain ⟨t, a1, b1⟩ := hv p e (zRm d h u) s m (As.map (zt τ)).toArray below meth c H' locs' cells' slots' base (cells' + 1) (slots' + 6) ls' [] (zQc D base τ K) (fun E st t => E = zEx (a - 1000) ∧ s.vm.Alike t.vm ∧ H'.size ≤ t.heap.size ∧ ∀ q : Nat, q < H'.size → t.heap[q]? = H'[q]?) hx hb hown hts hE hS' htb (hls.trans hml.symm) rfl
        (by show 16 ≤ zFr d; unfold zFr; omega) (by show 400 ≤ zLo d; unfold zLo; omega) (by show cells' + 1 ≤ zCM - h.length; omega) (by show slots' + 6 ≤ zSM - u; omega) hlocks (fun t q1 q2 q3 => ⟨rfl, q1, q2, q3⟩) (Nat.le_refl _) (Nat.le_refl _) T hT X
      refine ⟨t, a1, z_mq b1 (by show cells' + 1 ≤ zCM - h.length; omega) (by show slots' + 6 ≤ zSM - u; omega) ?_⟩
      intro E t L ⟨q0, q1, q2, q3⟩ hW hsm hfr
      have hsz : t.heap.size ≤ s.heap.size + (cells' + 1) := hsm.2.2.1
      have hsl : ((t.heap.toList.drop s.heap.size).map (fun c => c.slots.size)).sum ≤ slots' + 6 := hsm.2.2.2.2.1
      have hsp : zsum base t.heap = zsum base s.heap + ((t.heap.toList.drop s.heap.size).map (fun c => c.slots.size)).sum := zsum_split (b := base) (T := ({ t with vm := s.vm } : State)) hbs hsm
      have hsx := zsum_ext hbH q2 q3
      rw [hI.2.2.2.1] at hsp
      rw [hI'.2.2.2.1] at hsx
      refine ⟨a - 1000, h' ++ List.replicate (t.heap.size - H'.size) (98, []), u' + (zsum base t.heap - u'), q0.symm, hKv _ _ (by omega) (by omega), ?_, ?_⟩
      · refine ⟨fun k ck hk => ?_, by simp; omega, by simp; omega, by omega, by simp; omega, by omega⟩
        rcases Nat.lt_or_ge k h'.length with e | e
        · rw [List.getElem?_append_left e] at hk
          refine ((hI'.1 k ck hk).kept (q3 _ ?_)).moved q1
          rcases Nat.lt_or_ge k zro with e4 | e4
          · have := hτ.2.1 k e4; omega
          · have := hτ.1 k e4; omega
        · rw [List.getElem?_append_right e] at hk
          have h9 := List.mem_of_getElem? hk
          rw [List.mem_replicate] at h9
          rw [h9.2]
          exact trivial
      · exact ⟨Nat.le_trans hS'.1 q2, fun q h1 h2 => by rw [q3 q (Nat.lt_of_lt_of_le h1 hS'.1)]; exact hS'.2.1 q h1 h2⟩
  unfold zCtr
  by_cases hemp : (zTb (zi j)).isEmpty = true
  · have e0 : zTb (zi j) = [] := List.isEmpty_iff.mp hemp
    refine vx_ofW (cc := zBy (zi j)) (maxL := zMl (zi j)) (ret := zRe (zi j)) (ws' := zT) hvm.1 (by unfold zCw; rw [if_pos hemp]) (fun p e s m args below meth c s₁ B hml htab hPc => body p e s m args below meth c s₁ B hml ?_ hPc)
    unfold zHh
    rw [e0]
    exact List.eq_nil_iff_forall_not_mem.mpr htab
  · refine vx_ofWH (cc := zBy (zi j)) (maxL := zMl (zi j)) (ret := zRe (zi j)) (hh := zHh (zi j)) (ws' := zT) hvm.1 (by unfold zCw; rw [if_neg hemp]) (fun p e s m args below meth c s₁ B hml hPc => body p e s m args below meth c s₁ B hml ?_ hPc)
    refine vx_table (x := zYn (zi j)) (bytes := zBy (zi j)) (maxL' := zMl (zi j)) (ret' := zRe (zi j)) B ?_
    have h9 := atoms_spec (ws := zCw (zi j) :: zT) B.pre _ List.mem_cons_self
    unfold zCw at h9
    rw [if_neg hemp] at h9
    exact h9
end
section
/-! ===== a run for f + 1 steps ===== -/
theorem zLen_call {i : Instr} {a b : Nat} (h : zKd i a b = 3) : zLen i ≠ 0 := by
  unfold zKd at h
  split at h <;> first | (simp [zLen]; done) | (exact absurd h (by decide)) | skip
theorem zLen_const {i : Instr} {a b : Nat} (h : zKd i a b = 7) : zLen i ≠ 0 := by
  unfold zKd at h
  split at h <;> first | (simp [zLen]; done) | (exact absurd h (by decide)) | skip
theorem lv_drop1 {ls : Array Slot} {nL : Nat} {l : List (Nat × Value)} {q : Nat × Value} (h : lv_has ls nL (q :: l)) : lv_has ls nL l := ⟨h.1, h.2.1, fun x hx => h.2.2 x (List.mem_cons_of_mem _ hx)⟩
set_option maxHeartbeats 2000000 in
theorem z_step {l : Launch} {zr : zRow} {zi : Nat → zI} (hV : zVal l zr zi) (f : Nat) (hsim : zSimAt l zr zi f) : zSimAt l zr zi (f + 1) := by
  intro d j pc lv st h u K hw p e R s m args below meth c H locs cells slots Q ls D base τ u0 hF hI hS hc1 hc2 hl kr kx kb
  obtain ⟨hx, hb, hml, hown, hts, hnm, htb, hK, hE, hτ, hbs, hR1, hR2, hRf, hRl, hu0⟩ := id hF
  unfold zW at hw
  split at hw
  · exact hw.elim
  · rename_i i a b hrow
    obtain ⟨⟨n, hdg, hn⟩, hv⟩ := hV.1 j pc i a b hrow
    split at hw
    · split at hw
      · rename_i pc' lv' st' hp
        exact zP_ok hx hb hdg hn hl hp (fun ls' hl' => hsim d j pc' lv' st' h u K hw p e R s m args below meth c H locs cells slots Q ls' D base τ u0 hF hI hS hc1 hc2 hl' kr kx kb)
      · exact hw.elim
    · rename_i hk
      rw [hk] at hv
      split at hw
      · rename_i pc' st' h' hg
        exact zG_ok hx hb hown hts hK hτ hE.1 hnm hdg hn (fun w hw1 => zWd_ok hts hE (hv.1 w hw1)) hv.2 hI hS hg (fun H1 locs1 hI1 hS1 hz1 => hsim d j pc' lv st' h' u K hw p e R s m args below meth c H1 locs1 cells slots Q ls D base τ u0 hF hI1 hS1 (by rw [hz1]; exact hc1) hc2 hl kr kx kb)
      · exact hw.elim
    · rename_i hk
      rw [hk] at hv
      split at hw
      · rename_i pc' st' h' u' hg
        exact zMk_ok hx hb hown hts hK hτ hdg hn (fun w hw1 => zWd_ok hts hE (hv w hw1)) hbs hc1 hc2 hR1 hR2 hI hS hg (fun H1 cells1 slots1 hI1 hS1 q1 q2 => hsim d j pc' lv st' h' u' K hw p e R s m args below meth c H1 locs cells1 slots1 Q ls D base τ u0 hF hI1 hS1 q1 q2 hl kr kx kb)
      · exact hw.elim
    · rename_i hk
      rw [hk] at hv
      have hdg2 : decode (zBy (zi j)) pc = .ok (i, zLen i) := by
        rcases hn with q | q
        · exact absurd q (zLen_call hk)
        · rw [← q]; exact hdg
      obtain ⟨h1, h2, h3, h4, h5, hw⟩ := hw
      split at hw
      · exact hw.elim
      · rename_i d'
        have hctr := z_met hV f hsim (D := D) hτ hw h3
        have hfd : zFr (d' + 1) ≤ R.frames := hRf
        have hld : zLo (d' + 1) ≤ R.locals := hRl
        have hI2 : zro ≤ h.length := hI.2.1
        have hI3 : H.size + zro = base + h.length := hI.2.2.1
        have hI5 : h.length ≤ zCM := hI.2.2.2.2.1
        have hI6 : u ≤ zSM := hI.2.2.2.2.2
        have hg1 : zFr d' + 1 ≤ R.frames := by
          have z : zFr (d' + 1) = zFr d' + 1 := rfl
          rw [z] at hfd
          exact hfd
        have hg2 : 8 + (zMl (zi a) + 11) + zLo d' ≤ R.locals := by
          have z : zLo (d' + 1) = 80 * (d' + 1) + 400 := rfl
          have z2 : zLo d' = 80 * d' + 400 := rfl
          omega
        have hg3 : cells + (zCM - h.length) ≤ R.cells := by omega
        have hg4 : slots + (zSM - u) ≤ R.slots := by omega
        have hrun := hv p e R s m args below meth c H locs cells slots pc base ls ((st.take (zNp (zi a))).reverse.map (zt τ)) ((st.drop (zNp (zi a))).map (zt τ)) (zRm d' h u) _ _ _ _ hx hb hml hown hts hE hdg2 hl.1 (by simp; omega) (by
            rw [List.map_map]
            have e9 : ((fun v => Value.category v) ∘ zt τ) = (fun v => v.category) := funext fun v => zt_cat τ v
            rw [e9]; exact h2) hctr zPc_blind (fun U hU hW => ⟨rfl, by rw [hU]; exact hI.moved hW.alike, va_K.moved hW.alike hK, by rw [hU]; exact (hE.kept (fun q q1 q2 => hS.2.1 q q1 q2)).moved hW⟩)
          hg1 hg2 hg3 hg4 (by
            rcases h5 with h5 | h5
            · exact Or.inl h5
            · split at h5
              · rename_i q As2 heq
                split at h5
                · rename_i c1 hc1
                  obtain ⟨⟨rr, hr, cell, q1, q2, q3, q4⟩, -⟩ := (hI.1 q c1 hc1).obj h5.2
                  have hcls := (hK.1 _ _ hr).2
                  refine Or.inr ⟨τ q, As2.map (zt τ), cell, rr, ?_, q1, by rw [q3]; rfl, ?_, by rw [q2]; exact hcls.1, by rw [q2]; exact hcls⟩
                  · rw [heq]; rfl
                  · rw [show b / 10 - 1 = c1.1 by omega]; exact hr
                · exact h5.elim
              · exact h5.elim)
        have est : (((st.take (zNp (zi a))).reverse.map (zt τ)).reverse ++ (st.drop (zNp (zi a))).map (zt τ)) = st.map (zt τ) := by
          rw [List.map_reverse, List.reverse_reverse, ← List.map_append, List.take_append_drop]
        rw [est] at hrun
        refine z_after hrun hS hbs hu0 ?_ ?_
        · intro v h' u' H1 locs1 cells1 slots1 hK1 hI1 hS1 q1 q2
          have hg := hsim (d' + 1) j (pc + zLen i) lv (v.toList ++ st.drop (zNp (zi a))) h' u' K hK1 p e R s m args below meth c H1 locs1 cells1 slots1 Q ls D base τ u0 hF hI1 hS1 q1 q2 hl kr kx kb
          have e8 : (v.toList ++ st.drop (zNp (zi a))).map (zt τ) = (v.map (zt τ)).toList ++ (st.drop (zNp (zi a))).map (zt τ) := by cases v <;> simp
          rw [e8] at hg
          exact hg
        · intro k h' u' H1 locs1 cells1 slots1 q ce hK1 hI1 hS1 q1 q2 hce hcv hcl
          dsimp only at hK1
          unfold zCat at hK1
          cases hhit : zHit (zi j) pc k with
          | none =>
            rw [hhit] at hK1
            exact kx pc k h' u' H1 locs1 cells1 slots1 ls _ q ce hhit hK1 hI1 hS1 q1 q2 hce hcv hcl
          | some r =>
            rw [hhit] at hK1
            dsimp only at hK1
            split at hK1
            · rename_i pc' lv' hcat
              split at hcat
              · rename_i kk a9 b9 hrow9
                split at hcat
                · rename_i hkk
                  cases hcat
                  obtain ⟨hrt, pre, suf, hsplit, hpre⟩ := List.find?_eq_some_iff_append.mp hhit
                  obtain ⟨⟨n9, hdg9, hn9⟩, -⟩ := hV.1 j _ _ _ _ hrow9
                  have hn92 : n9 = 2 := by
                    rcases hn9 with z | z
                    · exact absurd z (by simp [zLen])
                    · exact z
                  subst hn92
                  have hvm : zVm zi j := hV.2.1 j (fun z => by
                    have := hw
                    exact absurd z (hV.2.2.1 j pc (by rw [hrow]; exact fun z => nomatch z)))
                  have hmem : r ∈ zTb (zi j) := by
                    have := List.mem_of_find?_eq_some hhit
                    exact this
                  obtain ⟨v1, v2, v3⟩ := hvm.2 r hmem
                  have hr3 : (decide (r.1 ≤ pc) && decide (pc < r.2.1)) = true ∧ zEx r.2.2.2.2 = zEx k := by
                    have z := hrt
                    rw [Bool.and_eq_true] at z
                    exact ⟨z.1, of_decide_eq_true z.2⟩
                  refine vx_catch (own := (zYn (zi j)).cls) (name := zEx r.2.2.2.2) (E := zEx k) hown (pre.map (fun r => (⟨r.1, r.2.1, r.2.2.1, r.2.2.2.1⟩ : ExceptionTableEntry))) ⟨r.1, r.2.1, r.2.2.1, r.2.2.2.1⟩ (suf.map (fun r => (⟨r.1, r.2.1, r.2.2.1, r.2.2.2.1⟩ : ExceptionTableEntry))) ?_ ?_ ?_ v1 (zWd_ok hts hE v2) (by rw [← hr3.2]; exact zWd_ok hts hE v3) hce hcv hcl ?_
                  · rw [htb]
                    unfold tableOf zHh
                    have hsp2 : zTb (zi j) = pre ++ r :: suf := hsplit
                    rw [hsp2, List.map_map, List.map_append, List.map_cons]
                    rfl
                  · intro z hz
                    obtain ⟨r2, hr2, rfl⟩ := List.mem_map.mp hz
                    have hno := hpre r2 hr2
                    have hm2 : r2 ∈ zTb (zi j) := by
                      have hsp2 : zTb (zi j) = pre ++ r :: suf := hsplit
                      rw [hsp2]
                      exact List.mem_append_left _ hr2
                    obtain ⟨w1, w2, -⟩ := hvm.2 r2 hm2
                    by_cases hcov : covers (⟨r2.1, r2.2.1, r2.2.2.1, r2.2.2.2.1⟩ : ExceptionTableEntry) pc = true
                    · refine Or.inr ⟨w1, zEx r2.2.2.2.2, zWd_ok hts hE w2, hE.2.2.2.2.2.1 k r2.2.2.2.2 (fun z => ?_)⟩
                      have hc9 : (decide (r2.1 ≤ pc) && decide (pc < r2.2.1)) = true := by
                        simpa [covers] using hcov
                      rw [hc9, z] at hno
                      simp at hno
                    · exact Or.inl (by simpa using hcov)
                  · simpa [covers] using hr3.1
                  · refine lv_astore hx hb hdg9 hl hkk rfl (fun ls' hl' => ?_)
                    have hl2 := lv_drop1 hl'
                    have e7 : (zlm τ lv).filter (fun q => !(q.1 == kk) && !(q.1 + 1 == kk && q.2.category == 2)) = zlm τ ((zs1 lv kk .null).drop 1) := by
                      have := zlm_filter τ (fun a b => !(a == kk) && !(a + 1 == kk && b == 2)) lv
                      rw [this]
                      rfl
                    rw [e7] at hl2
                    exact hsim (d' + 1) j _ _ [] h' u' K hK1 p e R s m args below meth c H1 locs1 cells1 slots1 Q ls' D base τ u0 hF hI1 hS1 q1 q2 hl2 kr kx kb
                · cases hcat
              · cases hcat
            · rename_i hcat
              split at hcat
              · split at hcat <;> cases hcat
              · cases hcat
            · exact hK1.elim
    · split at hw
      · rename_i v hrt
        exact kr pc i a b st v h u H locs cells slots ls hrow hrt hw hI hS hc1 hc2
      · exact hw.elim
    · rename_i hk
      exact kb pc i a b st h u H locs cells slots ls hrow hk hw.1 hw.2.1 hw.2.2.1 hw.2.2.2 hI hS hc1 hc2 hl.1
    · rename_i hk
      rw [hk] at hv
      obtain ⟨x, rfl, hlink⟩ := hv
      split at hw
      · rename_i q r
        have hn3 : n = 3 := by
          rcases hn with z | z
          · exact absurd z (by simp [zLen])
          · exact z
        subst hn3
        have hld : zLo d ≤ R.locals := hRl
        have hfd : zFr d ≤ R.frames := hRf
        refine W.objInit hx hb hown (zWd_ok hts hE hlink) (zWd_ok hts hE hV.2.2.2.1) (zWd_ok hts hE hV.2.2.2.2) rfl (hl.1.trans hml.symm) rfl hdg (by unfold zFr at hfd; omega) (by
          have e9 : ((r.map (zt τ)).map fun v => v.category).sum ≤ 8 := by
            rw [List.map_map]
            have e9 : ((fun v => Value.category v) ∘ zt τ) = (fun v => v.category) := funext fun v => zt_cat τ v
            rw [e9]; exact hw.1
          have := lv_room (m := m) (pc := pc) (ls := ls) (rest := (Value.ref q :: r).map (zt τ)) e9
          unfold zLo at hld
          exact Nat.le_trans (Nat.add_le_add_right this 12) (by omega)) ?_
        exact hsim d j (pc + 3) lv r h u K hw.2 p e R s m args below meth c H locs cells slots Q ls D base τ u0 hF hI hS hc1 hc2 hl kr kx kb
      · exact hw.elim
    · rename_i hk
      rw [hk] at hv
      have hdg2 : decode (zBy (zi j)) pc = .ok (i, zLen i) := by
        rcases hn with q | q
        · exact absurd q (zLen_const hk)
        · rw [← q]; exact hdg
      exact hv p e R s m args below meth c H locs cells slots pc base u D τ h Q ls (st.map (zt τ)) hx hb hown hts hE hI hS hτ hdg2 (hsim d j (pc + zLen i) lv (zCo i a b :: st) h u K hw p e R s m args below meth c H locs cells slots Q ls D base τ u0 hF hI hS hc1 hc2 hl kr kx kb)
    · exact hw.elim
theorem z_sim {l : Launch} {zr : zRow} {zi : Nat → zI} (hV : zVal l zr zi) : ∀ f, zSimAt l zr zi f
  | 0 => fun d j pc lv st h u K hw => hw.elim
  | f + 1 => z_step hV f (z_sim hV f)
end
section
/-! ===== the places of calls, kind by kind ===== -/
theorem zGood_in {w : Cond} (h : w ∈ zT) : GoodIn zT (w :: zT) := fun x hx => by
  have h1 : x ∈ zT := by
    rcases List.mem_cons.mp hx with e | e
    · rw [e]; exact h
    · exact e
  exact ⟨h1, good_of_word (List.all_eq_true.mp zT_good x h1)⟩
theorem zCw_code {x : zI} (h : (zTb x).isEmpty = true) : zCw x = .code (zYn x) (zBy x) (zMl x) (zRe x) := by
  unfold zCw
  rw [if_pos h]
theorem zCw_with {x : zI} (h : (zTb x).isEmpty = false) : zCw x = .codeWith (zYn x) (zBy x) (zMl x) (zRe x) (zHh x) := by
  unfold zCw
  rw [if_neg (by rw [h]; decide)]
abbrev zNoH (C : String) : Prop := C ≠ "java/lang/invoke/MethodHandle" ∧ C ≠ "java/lang/invoke/VarHandle"
abbrev zPar (x : zI) (n : Nat) : Prop := (parseMethodDescriptor (zYn x).desc).map (fun d => d.parameters.length) = some n
theorem zSite_S {l : Launch} {zi : Nat → zI} {j x a b : Nat} (h0 : (zTb (zi a)).isEmpty = true) (h1 : zCw (zi a) ∈ zT) (h2 : Cond.initialized (zYn (zi a)).cls ∈ zT) (h3 : Cond.static (zYn (zi a)) ∈ zT) (h4 : Cond.methodLink (zYn (zi j)).cls x (zYn (zi a)) ∈ zT) (h5 : zNoH (zYn (zi a)).cls) (h6 : zPar (zi a) (zNp (zi a))) : zSite l zi j (.invokestatic x) a b := by
  intro p e R s m args below meth c H locs cells slots pc base ls As rest rm Pc Qc XC free hx hb hml hown hts hE hdg hls hlen hsum hM hbl hP hfr hlo hce hsl hrc
  exact vx_runS (As := As) (rest := rest) (index := x) (Ts := zT) (n := zNp (zi a)) ⟨hx, hb, hml, hown, hts⟩ hM ⟨callB_of (zNp (zi a)) hts (zGood_in h1) (by rw [zCw_code h0]) rfl rfl (hts _ h2) (hts _ h4) ⟨h5.1, h5.2, h6⟩ ⟨hfr, hlo⟩, hts _ h3⟩ ⟨hbl, hP⟩ rfl hlen hls rfl (lv_room hsum) hdg ⟨hce, hsl⟩
theorem zSite_SN {l : Launch} {zi : Nat → zI} {j x a b : Nat} {host : String} (h0 : (zTb (zi a)).isEmpty = true) (h1 : zCw (zi a) ∈ zT) (h2 : Cond.initialized (zYn (zi a)).cls ∈ zT) (h3 : Cond.static (zYn (zi a)) ∈ zT) (h4 : Cond.methodLinkNest (zYn (zi j)).cls x (zYn (zi a)) host ∈ lw_tbl) (h5 : zNoH (zYn (zi a)).cls) (h6 : zPar (zi a) (zNp (zi a))) : zSite l zi j (.invokestatic x) a b := by
  intro p e R s m args below meth c H locs cells slots pc base ls As rest rm Pc Qc XC free hx hb hml hown hts hE hdg hls hlen hsum hM hbl hP hfr hlo hce hsl hrc
  exact vx_runSN (host := host) (As := As) (rest := rest) (index := x) (Ts := zT) (n := zNp (zi a)) ⟨hx, hb, hml, hown, hts⟩ hM ⟨va_cnB (zNp (zi a)) hts (zGood_in h1) (by rw [zCw_code h0]) rfl rfl (hE.2.1 _ h4 rfl) (hts _ h2) ⟨h5.1, h5.2, h6⟩ ⟨hfr, hlo⟩, hts _ h3, trivial⟩ ⟨hbl, hP⟩ rfl hlen hls rfl (lv_room hsum) hdg ⟨hce, hsl⟩
theorem zSite_SX {l : Launch} {zi : Nat → zI} {j x a b : Nat} (h0 : (zTb (zi a)).isEmpty = false) (h1 : zCw (zi a) ∈ zT) (h2 : Cond.initialized (zYn (zi a)).cls ∈ zT) (h3 : Cond.static (zYn (zi a)) ∈ zT) (h4 : Cond.methodLink (zYn (zi j)).cls x (zYn (zi a)) ∈ zT) (h5 : zNoH (zYn (zi a)).cls) (h6 : zPar (zi a) (zNp (zi a))) : zSite l zi j (.invokestatic x) a b := by
  intro p e R s m args below meth c H locs cells slots pc base ls As rest rm Pc Qc XC free hx hb hml hown hts hE hdg hls hlen hsum hM hbl hP hfr hlo hce hsl hrc
  refine vx_runSX (hh := zHh (zi a)) (bytes := zBy (zi a)) (maxL := zMl (zi a)) (ret := zRe (zi a)) (As := As) (rest := rest) (index := x) (Ts := zT) (n := zNp (zi a)) ⟨hx, hb, hml, hown, hts⟩ hM ⟨⟨rfl, rfl, hfr, hlo, pay_in hts (zGood_in h1), by rw [zCw_with h0]; exact List.mem_cons_self⟩, by rw [← zCw_with h0]; exact hts _ h1, hts _ h2, h5, fun sig h => ?_, hts _ h4, hts _ h3⟩ ⟨hbl, hP⟩ rfl hlen hls rfl (lv_room hsum) hdg ⟨hce, hsl⟩
  have h7 : (parseMethodDescriptor (zYn (zi a)).desc).map (fun d => d.parameters.length) = some (zNp (zi a)) := h6
  rw [h] at h7
  exact (Option.some.inj h7).symm
theorem zSite_V {l : Launch} {zi : Nat → zI} {j x a b n : Nat} (hb1 : b / 10 ≠ 0) (h0 : (zTb (zi a)).isEmpty = true) (h1 : zCw (zi a) ∈ zT) (h2 : Cond.initialized (zYn (zi a)).cls ∈ zT) (h3 : Cond.instanceMethod (zYn (zi a)) ∈ zT) (h7 : Cond.selects (zNm (b / 10 - 1)) (zYn (zi a)) (zYn (zi a)) ∈ zT) (h4 : Cond.methodLink (zYn (zi j)).cls x (zYn (zi a)) ∈ zT) (h5 : zNoH (zYn (zi a)).cls) (h6 : zPar (zi a) n) (hn : n + 1 = zNp (zi a)) : zSite l zi j (.invokevirtual x) a b := by
  intro p e R s m args below meth c H locs cells slots pc base ls As rest rm Pc Qc XC free hx hb hml hown hts hE hdg hls hlen hsum hM hbl hP hfr hlo hce hsl hrc
  rcases hrc with hrc | ⟨q, As2, cellB, r, rfl, hq, hst, hr, hcl, -⟩
  · exact absurd hrc hb1
  · rw [zNm_of hr] at h7
    exact vx_runV (C := r.1) (b := q) (As := As2) (rest := rest) (index := x) (Ts := zT) (n := n) (g := F0 m pc ls ((Value.ref q :: As2).reverse ++ rest)) ⟨hx, hb, hml, hown, hts⟩ hM ⟨callB_of n hts (zGood_in h1) (by rw [zCw_code h0]) rfl rfl (hts _ h2) (hts _ h4) ⟨h5.1, h5.2, h6⟩ ⟨hfr, hlo⟩, hts _ h3, hts _ h7⟩ ⟨hbl, ⟨cellB, hq, hst, hcl⟩, hP⟩ rfl (by simp at hlen; omega) hls (by rw [List.reverse_cons, List.append_assoc]; rfl) (lv_room hsum) hdg ⟨hce, hsl⟩
theorem zSite_I {l : Launch} {zi : Nat → zI} {j x a b n : Nat} (hb1 : b / 10 ≠ 0) (h0 : (zTb (zi a)).isEmpty = true) (h1 : zCw (zi a) ∈ zT) (h2 : Cond.initialized (zYn (zi a)).cls ∈ zT) (h3 : Cond.instanceMethod (zYn (zi a)) ∈ zT) (h4 : Cond.methodLink (zYn (zi j)).cls x (zYn (zi a)) ∈ zT) (h8 : (zYn (zi a)).name = "<init>") (h9 : zRe (zi a) = none) (h5 : zNoH (zYn (zi a)).cls) (h6 : zPar (zi a) n) (hn : n + 1 = zNp (zi a)) : zSite l zi j (.invokespecial x) a b := by
  intro p e R s m args below meth c H locs cells slots pc base ls As rest rm Pc Qc XC free hx hb hml hown hts hE hdg hls hlen hsum hM hbl hP hfr hlo hce hsl hrc
  rcases hrc with hrc | ⟨q, As2, cellB, r, rfl, hq, hst, hr, hcl, -⟩
  · exact absurd hrc hb1
  · exact vx_runI (b := q) (As := As2) (rest := rest) (index := x) (Ts := zT) (n := n) (g := F0 m pc ls ((Value.ref q :: As2).reverse ++ rest)) ⟨hx, hb, hml, hown, hts⟩ hM (cwI n hts (zGood_in h1) (by rw [zCw_code h0, h9]) rfl rfl (hts _ h2) (hts _ h4) (hts _ h3) h8 ⟨h5.1, h5.2, h6⟩ ⟨hfr, hlo⟩) ⟨hbl, hP⟩ rfl (by simp at hlen; omega) hls (by rw [List.reverse_cons, List.append_assoc]; rfl) (lv_room hsum) hdg ⟨hce, hsl⟩
theorem zSite_IN {l : Launch} {zi : Nat → zI} {j x a b n : Nat} {host : String} (hb1 : b / 10 ≠ 0) (h0 : (zTb (zi a)).isEmpty = true) (h1 : zCw (zi a) ∈ zT) (h2 : Cond.initialized (zYn (zi a)).cls ∈ zT) (h3 : Cond.instanceMethod (zYn (zi a)) ∈ zT) (h4 : Cond.methodLinkNest (zYn (zi j)).cls x (zYn (zi a)) host ∈ lw_tbl) (h8 : (zYn (zi a)).name = "<init>") (h9 : zRe (zi a) = none) (h5 : zNoH (zYn (zi a)).cls) (h6 : zPar (zi a) n) (hn : n + 1 = zNp (zi a)) : zSite l zi j (.invokespecial x) a b := by
  intro p e R s m args below meth c H locs cells slots pc base ls As rest rm Pc Qc XC free hx hb hml hown hts hE hdg hls hlen hsum hM hbl hP hfr hlo hce hsl hrc
  rcases hrc with hrc | ⟨q, As2, cellB, r, rfl, hq, hst, hr, hcl, -⟩
  · exact absurd hrc hb1
  · exact vx_runIN (host := host) (b := q) (As := As2) (rest := rest) (index := x) (Ts := zT) (n := n) (g := F0 m pc ls ((Value.ref q :: As2).reverse ++ rest)) ⟨hx, hb, hml, hown, hts⟩ hM ⟨va_cnB n hts (zGood_in h1) (by rw [zCw_code h0, h9]) rfl rfl (hE.2.1 _ h4 rfl) (hts _ h2) ⟨h5.1, h5.2, h6⟩ ⟨hfr, hlo⟩, h8, hts _ h3⟩ ⟨hbl, hP⟩ rfl (by simp at hlen; omega) hls (by rw [List.reverse_cons, List.append_assoc]; rfl) (lv_room hsum) hdg ⟨hce, hsl⟩
theorem zSite_F {l : Launch} {zi : Nat → zI} {j x cnt a b n : Nat} {nm ds : String} (hb1 : b / 10 ≠ 0) (hb2 : zNm (b / 10 - 1) = "java/util/ArrayList") (hnm : (nm, ds) ∈ zIm) (hy : zYn (zi a) = zAr nm ds) (h0 : (zTb (zi a)).isEmpty = true) (h1 : zCw (zi a) ∈ zT) (h2 : Cond.initialized "java/util/ArrayList" ∈ zT) (h3 : Cond.instanceMethod (zAr nm ds) ∈ zT) (h7 : Cond.selects "java/util/ArrayList" (zLi nm ds) (zAr nm ds) ∈ zT) (h4 : Cond.methodLink (zYn (zi j)).cls x (zLi nm ds) ∈ zT) (h6 : zPar (zi a) n) (hn : n + 1 = zNp (zi a)) : zSite l zi j (.invokeinterface x cnt) a b := by
  intro p e R s m args below meth c H locs cells slots pc base ls As rest rm Pc Qc XC free hx hb hml hown hts hE hdg hls hlen hsum hM hbl hP hfr hlo hce hsl hrc
  rcases hrc with hrc | ⟨q, As2, cellB, r, rfl, hq, hst, hr, hcl, hca⟩
  · exact absurd hrc hb1
  · rw [zNm_of hr] at hb2
    rw [hb2] at hcl hca
    have hF := hE.2.2.2.2.2.2 _ hnm
    have hG : GoodIn zT (va_wsF (zYn (zi j)).cls x "java/util/ArrayList" (zLi nm ds) (zAr nm ds) (zCw (zi a) :: zT)) := by
      intro w hw
      unfold va_wsF at hw
      have hz : w ∈ zT := by
        rcases List.mem_append.mp hw with hw | hw
        · simp only [List.mem_cons, List.not_mem_nil, or_false] at hw
          rcases hw with rfl | rfl | rfl | rfl
          · exact h4
          · exact h7
          · exact h3
          · exact h2
        · exact (zGood_in h1 w hw).1
      exact ⟨hz, good_of_word (List.all_eq_true.mp zT_good w hz)⟩
    rw [hy] at hM
    have hpar : (parseMethodDescriptor (zLi nm ds).desc).map (fun d => d.parameters.length) = some n := by
      have z : zPar (zi a) n := h6
      unfold zPar at z
      rw [hy] at z
      exact z
    exact vx_runF (C := "java/util/ArrayList") (cC := cellB.cls) (x := zLi nm ds) (y := zAr nm ds) (bytes := zBy (zi a)) (maxL := zMl (zi a)) (ret := zRe (zi a)) (b := q) (As := As2) (rest := rest) (index := x) (count := cnt) (Ts := zT) (n := n) (g := F0 m pc ls ((Value.ref q :: As2).reverse ++ rest)) hca ⟨hx, hb, hml, hown, hts⟩ hM
      (va_cwF n hts hG (by rw [zCw_code h0, hy]) rfl rfl hF ⟨by simp [zLi], by simp [zLi], hpar⟩ ⟨hfr, hlo⟩) ⟨hbl, ⟨cellB, hq, hst, hcl⟩, hP⟩ rfl (by simp at hlen; omega) hls (by rw [List.reverse_cons, List.append_assoc]; rfl) (lv_room hsum) hdg ⟨hce, hsl⟩
end
section
/-! ===== the tables' rows: what is checked of each by counting ===== -/
theorem zWd_T {w : Cond} (h : zWd w) (hx : zxw w = false) : w ∈ zT := by
  rcases h with h | ⟨-, h2⟩
  · exact h
  · rw [hx] at h2; cases h2
theorem zWd_L {w : Cond} (h : zWd w) : w ∈ lw_tbl := h.elim zT_tbl (fun q => q.1)
theorem zCw_x (x : zI) : zxw (zCw x) = false := by
  unfold zCw
  split <;> rfl
theorem zDcd_ok {bytes : ByteArray} {pc : Nat} {i : Instr} (h : zDcd bytes pc i = true) : ∃ n, decode bytes pc = .ok (i, n) ∧ (zLen i = 0 ∨ n = zLen i) := by
  unfold zDcd at h
  split at h
  · rename_i i2 n heq
    obtain ⟨h1, h2⟩ := Bool.and_eq_true_iff.mp h
    refine ⟨n, by rw [heq, of_decide_eq_true h1], ?_⟩
    simpa using h2
  · cases h
theorem zNoHb_ok {C : String} (h : zNoHb C = true) : zNoH C := by
  unfold zNoHb at h
  obtain ⟨h1, h2⟩ := Bool.and_eq_true_iff.mp h
  exact ⟨of_decide_eq_true h1, of_decide_eq_true h2⟩
theorem zSite_of {l : Launch} {zi : Nat → zI} {j a b : Nat} {i : Instr} (hk : zKd i a b = 3) (hs : zShp zi j i a b = true) (hw : ∀ w ∈ zNc zi j i a b, zWd w) : zSite l zi j i a b := by
  unfold zShp at hs
  rw [hk] at hs
  obtain ⟨h1, h2⟩ := Bool.and_eq_true_iff.mp hs
  have hno := zNoHb_ok h1
  split at h2
  · rename_i x
    simp only [zNc, List.forall_mem_cons] at hw
    obtain ⟨w1, w2, w3, w4, -⟩ := hw
    obtain ⟨h3, h4⟩ := Bool.and_eq_true_iff.mp h2
    have hpar : zPar (zi a) (zNp (zi a)) := of_decide_eq_true h3
    have t1 := zWd_T w1 (zCw_x _)
    have t2 := zWd_T w2 rfl
    have t3 := zWd_T w3 rfl
    by_cases hb : b % 10 = 1
    · rw [if_pos hb] at w4
      have h0 : (zTb (zi a)).isEmpty = true := by
        rw [hb] at h4
        simpa using h4
      exact zSite_SN h0 t1 t2 t3 (zWd_L w4) hno hpar
    · rw [if_neg hb] at w4
      have t4 := zWd_T w4 rfl
      by_cases h0 : (zTb (zi a)).isEmpty = true
      · exact zSite_S h0 t1 t2 t3 t4 hno hpar
      · exact zSite_SX (by simpa using h0) t1 t2 t3 t4 hno hpar
  · rename_i x
    simp only [zNc, List.forall_mem_cons] at hw
    obtain ⟨w1, w2, w3, w4, w5, -⟩ := hw
    simp only [Bool.and_eq_true, decide_eq_true_eq] at h2
    obtain ⟨⟨⟨h3, h4⟩, h5⟩, h6⟩ := h2
    exact zSite_V h3 h4 (zWd_T w1 (zCw_x _)) (zWd_T w2 rfl) (zWd_T w3 rfl) (zWd_T w4 rfl) (zWd_T w5 rfl) hno (of_decide_eq_true h5) (by omega)
  · rename_i x
    simp only [zNc, List.forall_mem_cons] at hw
    obtain ⟨w1, w2, w3, w4, -⟩ := hw
    simp only [Bool.and_eq_true, decide_eq_true_eq] at h2
    obtain ⟨⟨⟨⟨⟨h3, h4⟩, h5⟩, h6⟩, h7⟩, h8⟩ := h2
    have hre : zRe (zi a) = none := Option.isNone_iff_eq_none.mp h8
    by_cases hb : b % 10 = 1
    · rw [if_pos hb] at w4
      exact zSite_IN h3 h4 (zWd_T w1 (zCw_x _)) (zWd_T w2 rfl) (zWd_T w3 rfl) (zWd_L w4) h7 hre hno (of_decide_eq_true h5) (by omega)
    · rw [if_neg hb] at w4
      exact zSite_I h3 h4 (zWd_T w1 (zCw_x _)) (zWd_T w2 rfl) (zWd_T w3 rfl) (zWd_T w4 rfl) h7 hre hno (of_decide_eq_true h5) (by omega)
  · rename_i x cnt
    simp only [zNc, List.forall_mem_cons] at hw
    obtain ⟨w1, w2, w3, w4, w5, -⟩ := hw
    simp only [Bool.and_eq_true, decide_eq_true_eq] at h2
    obtain ⟨⟨⟨⟨⟨h3, h4⟩, h5⟩, h6⟩, h7⟩, h8⟩ := h2
    have hy : zYn (zi a) = zAr (zYn (zi a)).name (zYn (zi a)).desc := by
      unfold zAr
      rw [← h7]
    refine zSite_F (nm := (zYn (zi a)).name) (ds := (zYn (zi a)).desc) (n := zNp (zi a) - 1) (by omega) (by rw [h3]; rfl) h8 hy h4 (zWd_T w1 (zCw_x _)) (zWd_T w2 rfl) ?_ ?_ (zWd_T w5 rfl) (of_decide_eq_true h5) (by omega)
    · rw [← hy]; exact zWd_T w3 rfl
    · rw [← hy]; exact zWd_T w4 rfl
  · cases h2
theorem zCst_of {l : Launch} {zi : Nat → zI} {j a b : Nat} {i : Instr} (hk : zKd i a b = 7) (hs : zShp zi j i a b = true) (hw : ∀ w ∈ zNo7 (zYn (zi j)).cls i a b, zWd w) : zCst l zi j i a b := by
  intro p e R s m args below meth c H locs cells slots pc base u D τ h Q ls rest hx hb hown hts hE hI hS hτ hdg kk
  unfold zShp at hs
  rw [hk] at hs
  have hs2 : zShp7 i b = true := hs
  unfold zShp7 at hs2
  split at hs2
  · have hb0 : b = 0 := by simpa using hs2
    subst hb0
    exact lv_ldc hx hb hown (zWd_ok hts hE (hw _ List.mem_cons_self)) hdg kk
  · have hb0 : b = 0 := by simpa using hs2
    subst hb0
    exact lv_ldcw hx hb hown (zWd_ok hts hE (hw _ List.mem_cons_self)) hdg kk
  · have hb0 : b = 1 ∨ b = 2 := by simpa using hs2
    rcases hb0 with hb0 | hb0
    · subst hb0
      exact lv_ldc2 hx hb hown (zWd_ok hts hE (hw _ List.mem_cons_self)) hdg kk
    · subst hb0
      exact lv_ldc2d hx hb hown (zWd_ok hts hE (hw _ List.mem_cons_self)) hdg kk
  · cases hs2
theorem zVr_of {l : Launch} {zi : Nat → zI} {j pc a b : Nat} {i : Instr} (hd : zDcd (zBy (zi j)) pc i = true) (hs : zShp zi j i a b = true) (hw : ∀ w ∈ zNd zi j i a b, zWd w) : zVr l zi j pc i a b := by
  refine ⟨zDcd_ok hd, ?_⟩
  split
  · trivial
  · rename_i hk
    unfold zNd at hw
    unfold zShp at hs
    rw [hk] at hw hs
    refine ⟨hw, ?_⟩
    unfold zSg
    split
    · dsimp only at hs
      intro q
      rw [q] at hs
      simp only [Bool.not_true, Bool.false_or, Bool.and_eq_true, decide_eq_true_eq] at hs
      exact ⟨hs.1.1, hs.1.2, hs.2⟩
    · trivial
  · rename_i hk
    unfold zNd at hw
    rw [hk] at hw
    exact hw
  · rename_i hk
    refine zSite_of hk hs ?_
    unfold zNd at hw
    rw [hk] at hw
    exact hw
  · trivial
  · rename_i hk
    unfold zShp at hs
    rw [hk] at hs
    cases hs
  · rename_i hk
    unfold zNd at hw
    unfold zShp at hs
    rw [hk] at hw hs
    have hs2 : zShp6 i = true := hs
    unfold zShp6 at hs2
    split at hs2
    · exact ⟨_, rfl, hw _ List.mem_cons_self⟩
    · cases hs2
  · rename_i hk
    refine zCst_of hk hs ?_
    unfold zNd at hw
    rw [hk] at hw
    exact hw
  · trivial
end
section
/-! ===== runs of any number of steps ===== -/
theorem zW_mono {zr : zRow} {zi : Nat → zI} : ∀ (f d j pc : Nat) (lv : List (Nat × Value)) (st : List Value) (h : List zC) (u : Nat) (K : zK), zW zr zi f d j pc lv st h u K → zW zr zi (f + 1) d j pc lv st h u K
  | 0, _, _, _, _, _, _, _, _, hw => hw.elim
  | f + 1, d, j, pc, lv, st, h, u, K, hw => by
    have ih := @zW_mono zr zi f
    unfold zW at hw ⊢
    split at hw
    · exact hw
    · split at hw
      · split at hw
        · exact ih _ _ _ _ _ _ _ _ hw
        · exact hw
      · split at hw
        · exact ih _ _ _ _ _ _ _ _ hw
        · exact hw
      · split at hw
        · exact ih _ _ _ _ _ _ _ _ hw
        · exact hw
      · obtain ⟨h1, h2, h3, h4, h5, hw⟩ := hw
        refine ⟨h1, h2, h3, h4, h5, ?_⟩
        split at hw
        · exact hw
        · refine zW_K _ _ _ _ _ _ _ _ _ _ (ih _ _ _ _ _ _ _ _ hw) (fun o h' u' q => ?_)
          split at q
          · exact ih _ _ _ _ _ _ _ _ q
          · split at q
            · exact ih _ _ _ _ _ _ _ _ q
            · exact q
            · exact q
      · exact hw
      · exact hw
      · split at hw
        · exact ⟨hw.1, ih _ _ _ _ _ _ _ _ hw.2⟩
        · exact hw
      · exact ih _ _ _ _ _ _ _ _ hw
      · exact hw
theorem zW_le {zr : zRow} {zi : Nat → zI} {f g d j pc : Nat} {lv : List (Nat × Value)} {st : List Value} {h : List zC} {u : Nat} {K : zK} (hfg : f ≤ g) (hw : zW zr zi f d j pc lv st h u K) : zW zr zi g d j pc lv st h u K := by
  obtain ⟨n, rfl⟩ := Nat.exists_eq_add_of_le hfg
  clear hfg
  induction n with
  | zero => exact hw
  | succ n ih => exact zW_mono _ _ _ _ _ _ _ _ _ ih
theorem zBnd {Q : Nat → Nat → Prop} (hm : ∀ g x, Q g x → Q (g + 1) x) : ∀ n, (∀ x, x < n → ∃ g, Q g x) → ∃ g, ∀ x, x < n → Q g x
  | 0, _ => ⟨0, fun x h => absurd h (Nat.not_lt_zero x)⟩
  | n + 1, h => by
    have up : ∀ k g x, Q g x → Q (g + k) x := fun k => by
      induction k with
      | zero => exact fun g x q => q
      | succ k ih => exact fun g x q => hm _ _ (ih g x q)
    obtain ⟨g1, h1⟩ := zBnd hm n (fun x hx => h x (Nat.lt_succ_of_lt hx))
    obtain ⟨g2, h2⟩ := h n (Nat.lt_succ_self n)
    refine ⟨g1 + g2, fun x hx => ?_⟩
    rcases Nat.lt_or_eq_of_le (Nat.le_of_lt_succ hx) with e | e
    · exact up g2 g1 x (h1 x e)
    · subst e
      have := up g1 g2 x h2
      rw [Nat.add_comm] at this
      exact this
theorem zW_unif {zr : zRow} {zi : Nat → zI} : ∀ (f d j pc : Nat) (lv : List (Nat × Value)) (st : List Value) (h : List zC) (u : Nat) (P : Nat → zK), (∀ g o h u, P g o h u → P (g + 1) o h u) → zW zr zi f d j pc lv st h u (fun o h u => ∃ g, P g o h u) → ∃ g, zW zr zi f d j pc lv st h u (P g)
  | 0, _, _, _, _, _, _, _, _, _, hw => hw.elim
  | f + 1, d, j, pc, lv, st, h, u, P, hm, hw => by
    have ih := @zW_unif zr zi f
    unfold zW at hw
    split at hw
    · exact hw.elim
    · rename_i i a b hrow
      split at hw
      · rename_i hk
        split at hw
        · rename_i heq
          obtain ⟨g, q⟩ := ih _ _ _ _ _ _ _ P hm hw
          refine ⟨g, ?_⟩
          unfold zW
          simp only [hrow, hk, heq]
          exact q
        · exact hw.elim
      · rename_i hk
        split at hw
        · rename_i heq
          obtain ⟨g, q⟩ := ih _ _ _ _ _ _ _ P hm hw
          refine ⟨g, ?_⟩
          unfold zW
          simp only [hrow, hk, heq]
          exact q
        · exact hw.elim
      · rename_i hk
        split at hw
        · rename_i heq
          obtain ⟨g, q⟩ := ih _ _ _ _ _ _ _ P hm hw
          refine ⟨g, ?_⟩
          unfold zW
          simp only [hrow, hk, heq]
          exact q
        · exact hw.elim
      · rename_i hk
        obtain ⟨h1, h2, h3, h4, h5, hw⟩ := hw
        cases d with
        | zero => exact hw.elim
        | succ d =>
          have hw2 : zW zr zi f d a 0 (lv_args 0 (st.take (zNp (zi a))).reverse) [] h u (fun o h' u' => ∃ g, (fun (g : Nat) (o : zRes) (h' : List zC) (u' : Nat) => match o with
            | .inl v => zW zr zi f (d + 1) j (pc + zLen i) lv (v.toList ++ st.drop (zNp (zi a))) h' u' (P g)
            | .inr E => match zCat zr zi j pc E lv with
              | some (some (pc', lv')) => zW zr zi f (d + 1) j pc' lv' [] h' u' (P g)
              | some none => P g (.inr E) h' u'
              | none => False) g o h' u') := by
            refine zW_K _ _ _ _ _ _ _ _ _ _ hw (fun o h' u' q => ?_)
            cases o with
            | inl v => exact ih _ _ _ _ _ _ _ P hm q
            | inr E =>
              dsimp only at q ⊢
              cases hc : zCat zr zi j pc E lv with
              | none => rw [hc] at q; exact q.elim
              | some z =>
                rw [hc] at q
                cases z with
                | none => exact q
                | some y => exact ih _ _ _ _ _ _ _ P hm q
          obtain ⟨g, q⟩ := ih _ _ _ _ _ _ _ _ (fun g o h' u' q => by
            cases o with
            | inl v => exact zW_K _ _ _ _ _ _ _ _ _ _ q (hm g)
            | inr E =>
              dsimp only at q ⊢
              cases hc : zCat zr zi j pc E lv with
              | none => rw [hc] at q; exact q.elim
              | some z =>
                rw [hc] at q
                cases z with
                | none => exact hm g _ _ _ q
                | some y => exact zW_K _ _ _ _ _ _ _ _ _ _ q (hm g)) hw2
          refine ⟨g, ?_⟩
          unfold zW
          rw [hrow]
          dsimp only
          rw [hk]
          exact ⟨h1, h2, h3, h4, h5, q⟩
      · rename_i hk
        split at hw
        · rename_i heq
          obtain ⟨g, q⟩ := hw
          refine ⟨g, ?_⟩
          unfold zW
          simp only [hrow, hk, heq]
          exact q
        · exact hw.elim
      · rename_i hk
        obtain ⟨h1, h2, h3, hw⟩ := hw
        obtain ⟨g, q⟩ := zBnd (Q := fun g x => ∀ y, y < 7 → P g (.inr (a - 1000)) (h ++ List.replicate x (98, [])) (u + y)) (fun g x q y hy => hm g _ _ _ (q y hy)) 2 (fun x hx => zBnd (Q := fun g y => P g (.inr (a - 1000)) (h ++ List.replicate x (98, [])) (u + y)) (fun g y q => hm g _ _ _ q) 7 (fun y hy => hw x y (by omega) (by omega)))
        refine ⟨g, ?_⟩
        unfold zW
        rw [hrow]
        dsimp only
        rw [hk]
        exact ⟨h1, h2, h3, fun x y hx hy => q x (by omega) y (by omega)⟩
      · rename_i hk
        split at hw
        · obtain ⟨g, q⟩ := ih _ _ _ _ _ _ _ P hm hw.2
          refine ⟨g, ?_⟩
          unfold zW
          rw [hrow]
          dsimp only
          rw [hk]
          exact ⟨hw.1, q⟩
        · exact hw.elim
      · rename_i hk
        obtain ⟨g, q⟩ := ih _ _ _ _ _ _ _ P hm hw
        refine ⟨g, ?_⟩
        unfold zW
        rw [hrow]
        dsimp only
        rw [hk]
        exact q
      · exact hw.elim
def zE (zr : zRow) (zi : Nat → zI) (d j pc : Nat) (lv : List (Nat × Value)) (st : List Value) (h : List zC) (u : Nat) (K : zK) : Prop := ∃ f, zW zr zi f d j pc lv st h u K
section zEr
variable {zr : zRow} {zi : Nat → zI} {d j pc : Nat} {lv : List (Nat × Value)} {st : List Value} {h : List zC} {u a b : Nat} {K K' : zK} {i : Instr}
theorem zE_K (hw : zE zr zi d j pc lv st h u K) (hk : ∀ o h' u', K o h' u' → K' o h' u') : zE zr zi d j pc lv st h u K' := by
  obtain ⟨f, hw⟩ := hw
  exact ⟨f, zW_K _ _ _ _ _ _ _ _ _ _ hw hk⟩
theorem zE_0 {pc' : Nat} {lv' : List (Nat × Value)} {st' : List Value} (hrow : zr j pc = some (i, a, b)) (hk : zKd i a b = 0) (hp : zP (zMl (zi j)) i pc lv st = some (pc', lv', st')) (hw : zE zr zi d j pc' lv' st' h u K) : zE zr zi d j pc lv st h u K := by
  obtain ⟨f, hw⟩ := hw
  refine ⟨f + 1, ?_⟩
  unfold zW
  simp only [hrow, hk, hp]
  exact hw
theorem zE_1 {pc' : Nat} {st' : List Value} {h' : List zC} (hrow : zr j pc = some (i, a, b)) (hk : zKd i a b = 1) (hp : zG i a b pc st h = some (pc', st', h')) (hw : zE zr zi d j pc' lv st' h' u K) : zE zr zi d j pc lv st h u K := by
  obtain ⟨f, hw⟩ := hw
  refine ⟨f + 1, ?_⟩
  unfold zW
  simp only [hrow, hk, hp]
  exact hw
theorem zE_2 {pc' u' : Nat} {st' : List Value} {h' : List zC} (hrow : zr j pc = some (i, a, b)) (hk : zKd i a b = 2) (hp : zMk i a pc st h u = some (pc', st', h', u')) (hw : zE zr zi d j pc' lv st' h' u' K) : zE zr zi d j pc lv st h u K := by
  obtain ⟨f, hw⟩ := hw
  refine ⟨f + 1, ?_⟩
  unfold zW
  simp only [hrow, hk, hp]
  exact hw
theorem zE_4 {v : Option Value} (hrow : zr j pc = some (i, a, b)) (hk : zKd i a b = 4) (hp : zRt (zRe (zi j)) i st = some v) (hw : K (.inl v) h u) : zE zr zi d j pc lv st h u K := by
  refine ⟨1, ?_⟩
  unfold zW
  simp only [hrow, hk, hp]
  exact hw
theorem zE_5 (hrow : zr j pc = some (i, a, b)) (hk : zKd i a b = 5) (h1 : st = []) (h2 : h.length + 1 ≤ zCM) (h3 : u + 6 ≤ zSM) (hw : ∀ x y : Nat, x ≤ 1 → y ≤ 6 → K (.inr (a - 1000)) (h ++ List.replicate x (98, [])) (u + y)) : zE zr zi d j pc lv st h u K := by
  refine ⟨1, ?_⟩
  unfold zW
  rw [hrow]
  dsimp only
  rw [hk]
  exact ⟨h1, h2, h3, hw⟩
theorem zE_6 {q : Nat} {r : List Value} (hrow : zr j pc = some (i, a, b)) (hk : zKd i a b = 6) (hst : st = .ref q :: r) (hr : (r.map (fun v => v.category)).sum ≤ 8) (hw : zE zr zi d j (pc + 3) lv r h u K) : zE zr zi d j pc lv st h u K := by
  obtain ⟨f, hw⟩ := hw
  refine ⟨f + 1, ?_⟩
  unfold zW
  rw [hrow]
  dsimp only
  rw [hk, hst]
  exact ⟨hr, hw⟩
theorem zE_7 (hrow : zr j pc = some (i, a, b)) (hk : zKd i a b = 7) (hw : zE zr zi d j (pc + zLen i) lv (zCo i a b :: st) h u K) : zE zr zi d j pc lv st h u K := by
  obtain ⟨f, hw⟩ := hw
  refine ⟨f + 1, ?_⟩
  unfold zW
  rw [hrow]
  dsimp only
  rw [hk]
  exact hw
/-- behind a call: what its outcome goes on to -/
def zAf (zr : zRow) (zi : Nat → zI) (d j pc n : Nat) (lv : List (Nat × Value)) (rest : List Value) (K : zK) : zK := fun o h' u' => match o with
  | .inl v => zE zr zi d j (pc + n) lv (v.toList ++ rest) h' u' K
  | .inr E => match zCat zr zi j pc E lv with
    | some (some (pc', lv')) => zE zr zi d j pc' lv' [] h' u' K
    | some none => K (.inr E) h' u'
    | none => False
theorem zE_3 (hrow : zr j pc = some (i, a, b)) (hk : zKd i a b = 3) (h1 : zNp (zi a) ≤ st.length) (h2 : ((st.drop (zNp (zi a))).map (fun v => v.category)).sum ≤ 8) (h3 : (lg_sl (st.take (zNp (zi a))).reverse).length ≤ zMl (zi a)) (h4 : zMl (zi a) ≤ 40) (h5 : zRc b (st.take (zNp (zi a))).reverse h)
    (hw : zE zr zi d a 0 (lv_args 0 (st.take (zNp (zi a))).reverse) [] h u (zAf zr zi (d + 1) j pc (zLen i) lv (st.drop (zNp (zi a))) K)) : zE zr zi (d + 1) j pc lv st h u K := by
  obtain ⟨f, hw⟩ := hw
  have hw2 : zW zr zi f d a 0 (lv_args 0 (st.take (zNp (zi a))).reverse) [] h u (fun o h' u' => ∃ g, (fun (g : Nat) (o : zRes) (h' : List zC) (u' : Nat) => match o with
    | .inl v => zW zr zi g (d + 1) j (pc + zLen i) lv (v.toList ++ st.drop (zNp (zi a))) h' u' K
    | .inr E => match zCat zr zi j pc E lv with
      | some (some (pc', lv')) => zW zr zi g (d + 1) j pc' lv' [] h' u' K
      | some none => K (.inr E) h' u'
      | none => False) g o h' u') := by
    refine zW_K _ _ _ _ _ _ _ _ _ _ hw (fun o h' u' q => ?_)
    unfold zAf at q
    cases o with
    | inl v => exact q
    | inr E =>
      dsimp only at q ⊢
      cases hc : zCat zr zi j pc E lv with
      | none => rw [hc] at q; exact q.elim
      | some z =>
        rw [hc] at q
        cases z with
        | none => exact ⟨0, q⟩
        | some y => exact q
  obtain ⟨g, q⟩ := zW_unif _ _ _ _ _ _ _ _ _ (fun g o h' u' q => by
    cases o with
    | inl v => exact zW_mono _ _ _ _ _ _ _ _ _ q
    | inr E =>
      dsimp only at q ⊢
      cases hc : zCat zr zi j pc E lv with
      | none => rw [hc] at q; exact q.elim
      | some z =>
        rw [hc] at q
        cases z with
        | none => exact q
        | some y => exact zW_mono _ _ _ _ _ _ _ _ _ q) hw2
  refine ⟨(f + g) + 1, ?_⟩
  unfold zW
  rw [hrow]
  dsimp only
  rw [hk]
  refine ⟨h1, h2, h3, h4, h5, ?_⟩
  refine zW_K _ _ _ _ _ _ _ _ _ _ (zW_le (Nat.le_add_right f g) q) (fun o h' u' q => ?_)
  cases o with
  | inl v => exact zW_le (Nat.le_add_left g f) q
  | inr E =>
    dsimp only at q ⊢
    cases hc : zCat zr zi j pc E lv with
    | none => rw [hc] at q; exact q.elim
    | some z =>
      rw [hc] at q
      cases z with
      | none => exact q
      | some y => exact zW_le (Nat.le_add_left g f) q
end zEr
end
