-- ===== PART A: goes FIRST, ahead of the names: the tables' words, and 'selects' of the private methods out of them =====
/-- a private method of a class that the tables say can be made, by its rows of tables_1 -/
def lw_okq (q : MethodName × Nat) : Prop := (q.1.cls ≠ "java/lang/invoke/MethodHandle" ∧ q.1.cls ≠ "java/lang/invoke/VarHandle") ∧ Cond.instantiable q.1.cls q.2 ∈ tables_1 ∧ Cond.privateMethod q.1 ∈ tables_1 ∧ Cond.instanceMethod q.1 ∈ tables_1
theorem lw_p0 : lw_okq (⟨"CathedralCoin", "putBytes", "(I)V"⟩, 8) := ⟨⟨by decide +kernel, by decide +kernel⟩, List.mem_of_getElem? (i := 21) (by decide +kernel), List.mem_of_getElem? (i := 335) (by decide +kernel), List.mem_of_getElem? (i := 336) (by decide +kernel)⟩
theorem lw_p1 : lw_okq (⟨"CathedralCoin$Tokens", "scanOne", "(I)V"⟩, 7) := ⟨⟨by decide +kernel, by decide +kernel⟩, List.mem_of_getElem? (i := 155) (by decide +kernel), List.mem_of_getElem? (i := 358) (by decide +kernel), List.mem_of_getElem? (i := 359) (by decide +kernel)⟩
theorem lw_p2 : lw_okq (⟨"CathedralCoin$Tokens", "byteAt", "(I)I"⟩, 7) := ⟨⟨by decide +kernel, by decide +kernel⟩, List.mem_of_getElem? (i := 155) (by decide +kernel), List.mem_of_getElem? (i := 362) (by decide +kernel), List.mem_of_getElem? (i := 363) (by decide +kernel)⟩
theorem lw_p3 : lw_okq (⟨"CathedralCoin$Tokens", "takeWord", "()I"⟩, 7) := ⟨⟨by decide +kernel, by decide +kernel⟩, List.mem_of_getElem? (i := 155) (by decide +kernel), List.mem_of_getElem? (i := 372) (by decide +kernel), List.mem_of_getElem? (i := 373) (by decide +kernel)⟩
theorem lw_p4 : lw_okq (⟨"CathedralCoin$Tokens", "stands", "(Ljava/lang/String;I)Z"⟩, 7) := ⟨⟨by decide +kernel, by decide +kernel⟩, List.mem_of_getElem? (i := 155) (by decide +kernel), List.mem_of_getElem? (i := 403) (by decide +kernel), List.mem_of_getElem? (i := 404) (by decide +kernel)⟩
theorem lw_p5 : lw_okq (⟨"CathedralCoin$Tokens", "takeNumber", "()I"⟩, 7) := ⟨⟨by decide +kernel, by decide +kernel⟩, List.mem_of_getElem? (i := 155) (by decide +kernel), List.mem_of_getElem? (i := 458) (by decide +kernel), List.mem_of_getElem? (i := 459) (by decide +kernel)⟩
theorem lw_p6 : lw_okq (⟨"CathedralCoin$Tokens", "takeSign", "(I)I"⟩, 7) := ⟨⟨by decide +kernel, by decide +kernel⟩, List.mem_of_getElem? (i := 155) (by decide +kernel), List.mem_of_getElem? (i := 462) (by decide +kernel), List.mem_of_getElem? (i := 463) (by decide +kernel)⟩
theorem lw_p7 : lw_okq (⟨"CathedralCoin$Reader", "readClause", "()V"⟩, 14) := ⟨⟨by decide +kernel, by decide +kernel⟩, List.mem_of_getElem? (i := 183) (by decide +kernel), List.mem_of_getElem? (i := 474) (by decide +kernel), List.mem_of_getElem? (i := 475) (by decide +kernel)⟩
theorem lw_p8 : lw_okq (⟨"CathedralCoin$Reader", "refuse", "(I)V"⟩, 14) := ⟨⟨by decide +kernel, by decide +kernel⟩, List.mem_of_getElem? (i := 183) (by decide +kernel), List.mem_of_getElem? (i := 479) (by decide +kernel), List.mem_of_getElem? (i := 480) (by decide +kernel)⟩
theorem lw_p9 : lw_okq (⟨"CathedralCoin$Reader", "put", "(I)V"⟩, 14) := ⟨⟨by decide +kernel, by decide +kernel⟩, List.mem_of_getElem? (i := 183) (by decide +kernel), List.mem_of_getElem? (i := 487) (by decide +kernel), List.mem_of_getElem? (i := 488) (by decide +kernel)⟩
theorem lw_p10 : lw_okq (⟨"CathedralCoin$Reader", "readLaw", "()V"⟩, 14) := ⟨⟨by decide +kernel, by decide +kernel⟩, List.mem_of_getElem? (i := 183) (by decide +kernel), List.mem_of_getElem? (i := 491) (by decide +kernel), List.mem_of_getElem? (i := 492) (by decide +kernel)⟩
theorem lw_p11 : lw_okq (⟨"CathedralCoin$Reader", "advance", "()V"⟩, 14) := ⟨⟨by decide +kernel, by decide +kernel⟩, List.mem_of_getElem? (i := 183) (by decide +kernel), List.mem_of_getElem? (i := 495) (by decide +kernel), List.mem_of_getElem? (i := 496) (by decide +kernel)⟩
theorem lw_p12 : lw_okq (⟨"CathedralCoin$Reader", "readSum", "(I)V"⟩, 14) := ⟨⟨by decide +kernel, by decide +kernel⟩, List.mem_of_getElem? (i := 183) (by decide +kernel), List.mem_of_getElem? (i := 499) (by decide +kernel), List.mem_of_getElem? (i := 500) (by decide +kernel)⟩
theorem lw_p13 : lw_okq (⟨"CathedralCoin$Reader", "readProduct", "(I)V"⟩, 14) := ⟨⟨by decide +kernel, by decide +kernel⟩, List.mem_of_getElem? (i := 183) (by decide +kernel), List.mem_of_getElem? (i := 503) (by decide +kernel), List.mem_of_getElem? (i := 504) (by decide +kernel)⟩
theorem lw_p14 : lw_okq (⟨"CathedralCoin$Reader", "readOne", "(I)V"⟩, 14) := ⟨⟨by decide +kernel, by decide +kernel⟩, List.mem_of_getElem? (i := 183) (by decide +kernel), List.mem_of_getElem? (i := 507) (by decide +kernel), List.mem_of_getElem? (i := 508) (by decide +kernel)⟩
theorem lw_p15 : lw_okq (⟨"CathedralCoin$Reader", "takeNumber", "(II)I"⟩, 14) := ⟨⟨by decide +kernel, by decide +kernel⟩, List.mem_of_getElem? (i := 183) (by decide +kernel), List.mem_of_getElem? (i := 511) (by decide +kernel), List.mem_of_getElem? (i := 512) (by decide +kernel)⟩
def lw_privs_1 : List (MethodName × Nat) := [(⟨"CathedralCoin", "putBytes", "(I)V"⟩, 8), (⟨"CathedralCoin$Tokens", "scanOne", "(I)V"⟩, 7), (⟨"CathedralCoin$Tokens", "byteAt", "(I)I"⟩, 7), (⟨"CathedralCoin$Tokens", "takeWord", "()I"⟩, 7), (⟨"CathedralCoin$Tokens", "stands", "(Ljava/lang/String;I)Z"⟩, 7), (⟨"CathedralCoin$Tokens", "takeNumber", "()I"⟩, 7), (⟨"CathedralCoin$Tokens", "takeSign", "(I)I"⟩, 7), (⟨"CathedralCoin$Reader", "readClause", "()V"⟩, 14), (⟨"CathedralCoin$Reader", "refuse", "(I)V"⟩, 14), (⟨"CathedralCoin$Reader", "put", "(I)V"⟩, 14), (⟨"CathedralCoin$Reader", "readLaw", "()V"⟩, 14), (⟨"CathedralCoin$Reader", "advance", "()V"⟩, 14), (⟨"CathedralCoin$Reader", "readSum", "(I)V"⟩, 14), (⟨"CathedralCoin$Reader", "readProduct", "(I)V"⟩, 14), (⟨"CathedralCoin$Reader", "readOne", "(I)V"⟩, 14), (⟨"CathedralCoin$Reader", "takeNumber", "(II)I"⟩, 14)]
theorem lw_r1 : ∀ q ∈ lw_privs_1, lw_okq q := List.forall_mem_cons.mpr ⟨lw_p0, List.forall_mem_cons.mpr ⟨lw_p1, List.forall_mem_cons.mpr ⟨lw_p2, List.forall_mem_cons.mpr ⟨lw_p3, List.forall_mem_cons.mpr ⟨lw_p4, List.forall_mem_cons.mpr ⟨lw_p5, List.forall_mem_cons.mpr ⟨lw_p6, List.forall_mem_cons.mpr ⟨lw_p7, List.forall_mem_cons.mpr ⟨lw_p8, List.forall_mem_cons.mpr ⟨lw_p9, List.forall_mem_cons.mpr ⟨lw_p10, List.forall_mem_cons.mpr ⟨lw_p11, List.forall_mem_cons.mpr ⟨lw_p12, List.forall_mem_cons.mpr ⟨lw_p13, List.forall_mem_cons.mpr ⟨lw_p14, List.forall_mem_cons.mpr ⟨lw_p15, fun _ h => absurd h List.not_mem_nil⟩⟩⟩⟩⟩⟩⟩⟩⟩⟩⟩⟩⟩⟩⟩⟩
theorem lw_p16 : lw_okq (⟨"CathedralCoin$Reader", "say", "(II)V"⟩, 14) := ⟨⟨by decide +kernel, by decide +kernel⟩, List.mem_of_getElem? (i := 183) (by decide +kernel), List.mem_of_getElem? (i := 519) (by decide +kernel), List.mem_of_getElem? (i := 520) (by decide +kernel)⟩
theorem lw_p17 : lw_okq (⟨"CathedralCoin$Reader", "opens", "(I)Z"⟩, 14) := ⟨⟨by decide +kernel, by decide +kernel⟩, List.mem_of_getElem? (i := 183) (by decide +kernel), List.mem_of_getElem? (i := 526) (by decide +kernel), List.mem_of_getElem? (i := 527) (by decide +kernel)⟩
theorem lw_p18 : lw_okq (⟨"CathedralCoin$Reader", "expect", "(I)V"⟩, 14) := ⟨⟨by decide +kernel, by decide +kernel⟩, List.mem_of_getElem? (i := 183) (by decide +kernel), List.mem_of_getElem? (i := 530) (by decide +kernel), List.mem_of_getElem? (i := 531) (by decide +kernel)⟩
theorem lw_p19 : lw_okq (⟨"CathedralCoin$Reader", "readChoice", "(I)V"⟩, 14) := ⟨⟨by decide +kernel, by decide +kernel⟩, List.mem_of_getElem? (i := 183) (by decide +kernel), List.mem_of_getElem? (i := 534) (by decide +kernel), List.mem_of_getElem? (i := 535) (by decide +kernel)⟩
theorem lw_p20 : lw_okq (⟨"CathedralCoin$Reader", "readEither", "(I)V"⟩, 14) := ⟨⟨by decide +kernel, by decide +kernel⟩, List.mem_of_getElem? (i := 183) (by decide +kernel), List.mem_of_getElem? (i := 538) (by decide +kernel), List.mem_of_getElem? (i := 539) (by decide +kernel)⟩
theorem lw_p21 : lw_okq (⟨"CathedralCoin$Reader", "readBoth", "(I)V"⟩, 14) := ⟨⟨by decide +kernel, by decide +kernel⟩, List.mem_of_getElem? (i := 183) (by decide +kernel), List.mem_of_getElem? (i := 542) (by decide +kernel), List.mem_of_getElem? (i := 543) (by decide +kernel)⟩
theorem lw_p22 : lw_okq (⟨"CathedralCoin$Reader", "readAsk", "(I)V"⟩, 14) := ⟨⟨by decide +kernel, by decide +kernel⟩, List.mem_of_getElem? (i := 183) (by decide +kernel), List.mem_of_getElem? (i := 546) (by decide +kernel), List.mem_of_getElem? (i := 547) (by decide +kernel)⟩
theorem lw_p23 : lw_okq (⟨"CathedralCoin$Reader", "leadHere", "(II)V"⟩, 14) := ⟨⟨by decide +kernel, by decide +kernel⟩, List.mem_of_getElem? (i := 183) (by decide +kernel), List.mem_of_getElem? (i := 550) (by decide +kernel), List.mem_of_getElem? (i := 551) (by decide +kernel)⟩
theorem lw_p24 : lw_okq (⟨"CathedralCoin$Reader", "readName", "()V"⟩, 14) := ⟨⟨by decide +kernel, by decide +kernel⟩, List.mem_of_getElem? (i := 183) (by decide +kernel), List.mem_of_getElem? (i := 554) (by decide +kernel), List.mem_of_getElem? (i := 555) (by decide +kernel)⟩
theorem lw_p25 : lw_okq (⟨"CathedralCoin$Reader", "readDeed", "()V"⟩, 14) := ⟨⟨by decide +kernel, by decide +kernel⟩, List.mem_of_getElem? (i := 183) (by decide +kernel), List.mem_of_getElem? (i := 576) (by decide +kernel), List.mem_of_getElem? (i := 577) (by decide +kernel)⟩
theorem lw_p26 : lw_okq (⟨"CathedralCoin$Town", "toll", "(III)I"⟩, 15) := ⟨⟨by decide +kernel, by decide +kernel⟩, List.mem_of_getElem? (i := 29) (by decide +kernel), List.mem_of_getElem? (i := 653) (by decide +kernel), List.mem_of_getElem? (i := 654) (by decide +kernel)⟩
theorem lw_p27 : lw_okq (⟨"CathedralCoin$Works", "pop", "()I"⟩, 3) := ⟨⟨by decide +kernel, by decide +kernel⟩, List.mem_of_getElem? (i := 35) (by decide +kernel), List.mem_of_getElem? (i := 672) (by decide +kernel), List.mem_of_getElem? (i := 673) (by decide +kernel)⟩
theorem lw_p28 : lw_okq (⟨"CathedralCoin$Works", "work", "(II)V"⟩, 3) := ⟨⟨by decide +kernel, by decide +kernel⟩, List.mem_of_getElem? (i := 35) (by decide +kernel), List.mem_of_getElem? (i := 676) (by decide +kernel), List.mem_of_getElem? (i := 677) (by decide +kernel)⟩
theorem lw_p29 : lw_okq (⟨"CathedralCoin$Works", "push", "(J)V"⟩, 3) := ⟨⟨by decide +kernel, by decide +kernel⟩, List.mem_of_getElem? (i := 35) (by decide +kernel), List.mem_of_getElem? (i := 680) (by decide +kernel), List.mem_of_getElem? (i := 681) (by decide +kernel)⟩
theorem lw_p30 : lw_okq (⟨"CathedralCoin$Town", "oneDay", "()V"⟩, 15) := ⟨⟨by decide +kernel, by decide +kernel⟩, List.mem_of_getElem? (i := 29) (by decide +kernel), List.mem_of_getElem? (i := 701) (by decide +kernel), List.mem_of_getElem? (i := 702) (by decide +kernel)⟩
theorem lw_p31 : lw_okq (⟨"CathedralCoin$Town", "rubs", "(LCathedralCoin$Text;IIII)I"⟩, 15) := ⟨⟨by decide +kernel, by decide +kernel⟩, List.mem_of_getElem? (i := 29) (by decide +kernel), List.mem_of_getElem? (i := 705) (by decide +kernel), List.mem_of_getElem? (i := 706) (by decide +kernel)⟩
def lw_privs_2 : List (MethodName × Nat) := [(⟨"CathedralCoin$Reader", "say", "(II)V"⟩, 14), (⟨"CathedralCoin$Reader", "opens", "(I)Z"⟩, 14), (⟨"CathedralCoin$Reader", "expect", "(I)V"⟩, 14), (⟨"CathedralCoin$Reader", "readChoice", "(I)V"⟩, 14), (⟨"CathedralCoin$Reader", "readEither", "(I)V"⟩, 14), (⟨"CathedralCoin$Reader", "readBoth", "(I)V"⟩, 14), (⟨"CathedralCoin$Reader", "readAsk", "(I)V"⟩, 14), (⟨"CathedralCoin$Reader", "leadHere", "(II)V"⟩, 14), (⟨"CathedralCoin$Reader", "readName", "()V"⟩, 14), (⟨"CathedralCoin$Reader", "readDeed", "()V"⟩, 14), (⟨"CathedralCoin$Town", "toll", "(III)I"⟩, 15), (⟨"CathedralCoin$Works", "pop", "()I"⟩, 3), (⟨"CathedralCoin$Works", "work", "(II)V"⟩, 3), (⟨"CathedralCoin$Works", "push", "(J)V"⟩, 3), (⟨"CathedralCoin$Town", "oneDay", "()V"⟩, 15), (⟨"CathedralCoin$Town", "rubs", "(LCathedralCoin$Text;IIII)I"⟩, 15)]
theorem lw_r2 : ∀ q ∈ lw_privs_2, lw_okq q := List.forall_mem_cons.mpr ⟨lw_p16, List.forall_mem_cons.mpr ⟨lw_p17, List.forall_mem_cons.mpr ⟨lw_p18, List.forall_mem_cons.mpr ⟨lw_p19, List.forall_mem_cons.mpr ⟨lw_p20, List.forall_mem_cons.mpr ⟨lw_p21, List.forall_mem_cons.mpr ⟨lw_p22, List.forall_mem_cons.mpr ⟨lw_p23, List.forall_mem_cons.mpr ⟨lw_p24, List.forall_mem_cons.mpr ⟨lw_p25, List.forall_mem_cons.mpr ⟨lw_p26, List.forall_mem_cons.mpr ⟨lw_p27, List.forall_mem_cons.mpr ⟨lw_p28, List.forall_mem_cons.mpr ⟨lw_p29, List.forall_mem_cons.mpr ⟨lw_p30, List.forall_mem_cons.mpr ⟨lw_p31, fun _ h => absurd h List.not_mem_nil⟩⟩⟩⟩⟩⟩⟩⟩⟩⟩⟩⟩⟩⟩⟩⟩
theorem lw_p32 : lw_okq (⟨"CathedralCoin$Netting", "countSets", "(I)V"⟩, 7) := ⟨⟨by decide +kernel, by decide +kernel⟩, List.mem_of_getElem? (i := 235) (by decide +kernel), List.mem_of_getElem? (i := 777) (by decide +kernel), List.mem_of_getElem? (i := 778) (by decide +kernel)⟩
theorem lw_p33 : lw_okq (⟨"CathedralCoin$Netting", "lowestSet", "(I)I"⟩, 7) := ⟨⟨by decide +kernel, by decide +kernel⟩, List.mem_of_getElem? (i := 235) (by decide +kernel), List.mem_of_getElem? (i := 782) (by decide +kernel), List.mem_of_getElem? (i := 783) (by decide +kernel)⟩
theorem lw_p34 : lw_okq (⟨"CathedralCoin$Netting", "payAlong", "(I)V"⟩, 7) := ⟨⟨by decide +kernel, by decide +kernel⟩, List.mem_of_getElem? (i := 235) (by decide +kernel), List.mem_of_getElem? (i := 786) (by decide +kernel), List.mem_of_getElem? (i := 787) (by decide +kernel)⟩
theorem lw_p35 : lw_okq (⟨"CathedralCoin$Netting", "settle", "(III)V"⟩, 7) := ⟨⟨by decide +kernel, by decide +kernel⟩, List.mem_of_getElem? (i := 235) (by decide +kernel), List.mem_of_getElem? (i := 790) (by decide +kernel), List.mem_of_getElem? (i := 791) (by decide +kernel)⟩
theorem lw_p36 : lw_okq (⟨"CathedralCoin$Marrying", "findLowers", "([II)V"⟩, 5) := ⟨⟨by decide +kernel, by decide +kernel⟩, List.mem_of_getElem? (i := 267) (by decide +kernel), List.mem_of_getElem? (i := 807) (by decide +kernel), List.mem_of_getElem? (i := 808) (by decide +kernel)⟩
theorem lw_p37 : lw_okq (⟨"CathedralCoin$Marrying", "marryLowestOf", "(II)V"⟩, 5) := ⟨⟨by decide +kernel, by decide +kernel⟩, List.mem_of_getElem? (i := 267) (by decide +kernel), List.mem_of_getElem? (i := 812) (by decide +kernel), List.mem_of_getElem? (i := 813) (by decide +kernel)⟩
theorem lw_p38 : lw_okq (⟨"CathedralCoin$Town", "fittingDays", "(II)I"⟩, 15) := ⟨⟨by decide +kernel, by decide +kernel⟩, List.mem_of_getElem? (i := 29) (by decide +kernel), List.mem_of_getElem? (i := 863) (by decide +kernel), List.mem_of_getElem? (i := 864) (by decide +kernel)⟩
theorem lw_p39 : lw_okq (⟨"CathedralCoin", "aboutAll", "(I)I"⟩, 8) := ⟨⟨by decide +kernel, by decide +kernel⟩, List.mem_of_getElem? (i := 21) (by decide +kernel), List.mem_of_getElem? (i := 895) (by decide +kernel), List.mem_of_getElem? (i := 896) (by decide +kernel)⟩
theorem lw_p40 : lw_okq (⟨"CathedralCoinModel", "four", "(I)V"⟩, 38) := ⟨⟨by decide +kernel, by decide +kernel⟩, List.mem_of_getElem? (i := 899) (by decide +kernel), List.mem_of_getElem? (i := 1038) (by decide +kernel), List.mem_of_getElem? (i := 1039) (by decide +kernel)⟩
theorem lw_p41 : lw_okq (⟨"CathedralCoinModel", "readText", "()I"⟩, 38) := ⟨⟨by decide +kernel, by decide +kernel⟩, List.mem_of_getElem? (i := 899) (by decide +kernel), List.mem_of_getElem? (i := 1050) (by decide +kernel), List.mem_of_getElem? (i := 1051) (by decide +kernel)⟩
theorem lw_p42 : lw_okq (⟨"CathedralCoinModel", "nextToken", "()V"⟩, 38) := ⟨⟨by decide +kernel, by decide +kernel⟩, List.mem_of_getElem? (i := 899) (by decide +kernel), List.mem_of_getElem? (i := 1054) (by decide +kernel), List.mem_of_getElem? (i := 1055) (by decide +kernel)⟩
theorem lw_p43 : lw_okq (⟨"CathedralCoinModel", "byteAt", "(I)I"⟩, 38) := ⟨⟨by decide +kernel, by decide +kernel⟩, List.mem_of_getElem? (i := 899) (by decide +kernel), List.mem_of_getElem? (i := 1058) (by decide +kernel), List.mem_of_getElem? (i := 1059) (by decide +kernel)⟩
theorem lw_p44 : lw_okq (⟨"CathedralCoinModel", "clause", "()I"⟩, 38) := ⟨⟨by decide +kernel, by decide +kernel⟩, List.mem_of_getElem? (i := 899) (by decide +kernel), List.mem_of_getElem? (i := 1069) (by decide +kernel), List.mem_of_getElem? (i := 1070) (by decide +kernel)⟩
theorem lw_p45 : lw_okq (⟨"CathedralCoinModel", "sortOf", "()I"⟩, 38) := ⟨⟨by decide +kernel, by decide +kernel⟩, List.mem_of_getElem? (i := 899) (by decide +kernel), List.mem_of_getElem? (i := 1073) (by decide +kernel), List.mem_of_getElem? (i := 1074) (by decide +kernel)⟩
theorem lw_p46 : lw_okq (⟨"CathedralCoinModel", "isWord", "(J)Z"⟩, 38) := ⟨⟨by decide +kernel, by decide +kernel⟩, List.mem_of_getElem? (i := 899) (by decide +kernel), List.mem_of_getElem? (i := 1083) (by decide +kernel), List.mem_of_getElem? (i := 1084) (by decide +kernel)⟩
theorem lw_p47 : lw_okq (⟨"CathedralCoinModel", "parsed", "(Z)I"⟩, 38) := ⟨⟨by decide +kernel, by decide +kernel⟩, List.mem_of_getElem? (i := 899) (by decide +kernel), List.mem_of_getElem? (i := 1090) (by decide +kernel), List.mem_of_getElem? (i := 1091) (by decide +kernel)⟩
def lw_privs_3 : List (MethodName × Nat) := [(⟨"CathedralCoin$Netting", "countSets", "(I)V"⟩, 7), (⟨"CathedralCoin$Netting", "lowestSet", "(I)I"⟩, 7), (⟨"CathedralCoin$Netting", "payAlong", "(I)V"⟩, 7), (⟨"CathedralCoin$Netting", "settle", "(III)V"⟩, 7), (⟨"CathedralCoin$Marrying", "findLowers", "([II)V"⟩, 5), (⟨"CathedralCoin$Marrying", "marryLowestOf", "(II)V"⟩, 5), (⟨"CathedralCoin$Town", "fittingDays", "(II)I"⟩, 15), (⟨"CathedralCoin", "aboutAll", "(I)I"⟩, 8), (⟨"CathedralCoinModel", "four", "(I)V"⟩, 38), (⟨"CathedralCoinModel", "readText", "()I"⟩, 38), (⟨"CathedralCoinModel", "nextToken", "()V"⟩, 38), (⟨"CathedralCoinModel", "byteAt", "(I)I"⟩, 38), (⟨"CathedralCoinModel", "clause", "()I"⟩, 38), (⟨"CathedralCoinModel", "sortOf", "()I"⟩, 38), (⟨"CathedralCoinModel", "isWord", "(J)Z"⟩, 38), (⟨"CathedralCoinModel", "parsed", "(Z)I"⟩, 38)]
theorem lw_r3 : ∀ q ∈ lw_privs_3, lw_okq q := List.forall_mem_cons.mpr ⟨lw_p32, List.forall_mem_cons.mpr ⟨lw_p33, List.forall_mem_cons.mpr ⟨lw_p34, List.forall_mem_cons.mpr ⟨lw_p35, List.forall_mem_cons.mpr ⟨lw_p36, List.forall_mem_cons.mpr ⟨lw_p37, List.forall_mem_cons.mpr ⟨lw_p38, List.forall_mem_cons.mpr ⟨lw_p39, List.forall_mem_cons.mpr ⟨lw_p40, List.forall_mem_cons.mpr ⟨lw_p41, List.forall_mem_cons.mpr ⟨lw_p42, List.forall_mem_cons.mpr ⟨lw_p43, List.forall_mem_cons.mpr ⟨lw_p44, List.forall_mem_cons.mpr ⟨lw_p45, List.forall_mem_cons.mpr ⟨lw_p46, List.forall_mem_cons.mpr ⟨lw_p47, fun _ h => absurd h List.not_mem_nil⟩⟩⟩⟩⟩⟩⟩⟩⟩⟩⟩⟩⟩⟩⟩⟩
theorem lw_p48 : lw_okq (⟨"CathedralCoinModel", "behindOne", "(Z)Z"⟩, 38) := ⟨⟨by decide +kernel, by decide +kernel⟩, List.mem_of_getElem? (i := 899) (by decide +kernel), List.mem_of_getElem? (i := 1094) (by decide +kernel), List.mem_of_getElem? (i := 1095) (by decide +kernel)⟩
theorem lw_p49 : lw_okq (⟨"CathedralCoinModel", "betweenOf", "(Z)I"⟩, 38) := ⟨⟨by decide +kernel, by decide +kernel⟩, List.mem_of_getElem? (i := 899) (by decide +kernel), List.mem_of_getElem? (i := 1098) (by decide +kernel), List.mem_of_getElem? (i := 1099) (by decide +kernel)⟩
theorem lw_p50 : lw_okq (⟨"CathedralCoinModel", "kindOpen", "(Z)I"⟩, 38) := ⟨⟨by decide +kernel, by decide +kernel⟩, List.mem_of_getElem? (i := 899) (by decide +kernel), List.mem_of_getElem? (i := 1102) (by decide +kernel), List.mem_of_getElem? (i := 1103) (by decide +kernel)⟩
theorem lw_p51 : lw_okq (⟨"CathedralCoinModel", "marker", "()I"⟩, 38) := ⟨⟨by decide +kernel, by decide +kernel⟩, List.mem_of_getElem? (i := 899) (by decide +kernel), List.mem_of_getElem? (i := 1106) (by decide +kernel), List.mem_of_getElem? (i := 1107) (by decide +kernel)⟩
theorem lw_p52 : lw_okq (⟨"CathedralCoinModel", "isCompared", "()Z"⟩, 38) := ⟨⟨by decide +kernel, by decide +kernel⟩, List.mem_of_getElem? (i := 899) (by decide +kernel), List.mem_of_getElem? (i := 1110) (by decide +kernel), List.mem_of_getElem? (i := 1111) (by decide +kernel)⟩
theorem lw_p53 : lw_okq (⟨"CathedralCoinModel", "compareOf", "()I"⟩, 38) := ⟨⟨by decide +kernel, by decide +kernel⟩, List.mem_of_getElem? (i := 899) (by decide +kernel), List.mem_of_getElem? (i := 1117) (by decide +kernel), List.mem_of_getElem? (i := 1118) (by decide +kernel)⟩
theorem lw_p54 : lw_okq (⟨"CathedralCoinModel", "settle", "(I)V"⟩, 38) := ⟨⟨by decide +kernel, by decide +kernel⟩, List.mem_of_getElem? (i := 899) (by decide +kernel), List.mem_of_getElem? (i := 1122) (by decide +kernel), List.mem_of_getElem? (i := 1123) (by decide +kernel)⟩
theorem lw_p55 : lw_okq (⟨"CathedralCoinModel", "emit", "(II)V"⟩, 38) := ⟨⟨by decide +kernel, by decide +kernel⟩, List.mem_of_getElem? (i := 899) (by decide +kernel), List.mem_of_getElem? (i := 1126) (by decide +kernel), List.mem_of_getElem? (i := 1127) (by decide +kernel)⟩
theorem lw_p56 : lw_okq (⟨"CathedralCoinModel", "push", "(I)V"⟩, 38) := ⟨⟨by decide +kernel, by decide +kernel⟩, List.mem_of_getElem? (i := 899) (by decide +kernel), List.mem_of_getElem? (i := 1130) (by decide +kernel), List.mem_of_getElem? (i := 1131) (by decide +kernel)⟩
theorem lw_p57 : lw_okq (⟨"CathedralCoinModel", "whole", "()V"⟩, 38) := ⟨⟨by decide +kernel, by decide +kernel⟩, List.mem_of_getElem? (i := 899) (by decide +kernel), List.mem_of_getElem? (i := 1134) (by decide +kernel), List.mem_of_getElem? (i := 1135) (by decide +kernel)⟩
theorem lw_p58 : lw_okq (⟨"CathedralCoinModel", "beginOne", "(Z)I"⟩, 38) := ⟨⟨by decide +kernel, by decide +kernel⟩, List.mem_of_getElem? (i := 899) (by decide +kernel), List.mem_of_getElem? (i := 1138) (by decide +kernel), List.mem_of_getElem? (i := 1139) (by decide +kernel)⟩
theorem lw_p59 : lw_okq (⟨"CathedralCoinModel", "nameOf", "()I"⟩, 38) := ⟨⟨by decide +kernel, by decide +kernel⟩, List.mem_of_getElem? (i := 899) (by decide +kernel), List.mem_of_getElem? (i := 1142) (by decide +kernel), List.mem_of_getElem? (i := 1143) (by decide +kernel)⟩
theorem lw_p60 : lw_okq (⟨"CathedralCoinModel", "isOf", "(I)Z"⟩, 38) := ⟨⟨by decide +kernel, by decide +kernel⟩, List.mem_of_getElem? (i := 899) (by decide +kernel), List.mem_of_getElem? (i := 1146) (by decide +kernel), List.mem_of_getElem? (i := 1147) (by decide +kernel)⟩
theorem lw_p61 : lw_okq (⟨"CathedralCoinModel", "opensBy", "(I)I"⟩, 38) := ⟨⟨by decide +kernel, by decide +kernel⟩, List.mem_of_getElem? (i := 899) (by decide +kernel), List.mem_of_getElem? (i := 1150) (by decide +kernel), List.mem_of_getElem? (i := 1151) (by decide +kernel)⟩
theorem lw_p62 : lw_okq (⟨"CathedralCoinModel", "isAskAhead", "(Z)Z"⟩, 38) := ⟨⟨by decide +kernel, by decide +kernel⟩, List.mem_of_getElem? (i := 899) (by decide +kernel), List.mem_of_getElem? (i := 1155) (by decide +kernel), List.mem_of_getElem? (i := 1156) (by decide +kernel)⟩
theorem lw_p63 : lw_okq (⟨"CathedralCoinModel", "line", "(II)I"⟩, 38) := ⟨⟨by decide +kernel, by decide +kernel⟩, List.mem_of_getElem? (i := 899) (by decide +kernel), List.mem_of_getElem? (i := 1159) (by decide +kernel), List.mem_of_getElem? (i := 1160) (by decide +kernel)⟩
def lw_privs_4 : List (MethodName × Nat) := [(⟨"CathedralCoinModel", "behindOne", "(Z)Z"⟩, 38), (⟨"CathedralCoinModel", "betweenOf", "(Z)I"⟩, 38), (⟨"CathedralCoinModel", "kindOpen", "(Z)I"⟩, 38), (⟨"CathedralCoinModel", "marker", "()I"⟩, 38), (⟨"CathedralCoinModel", "isCompared", "()Z"⟩, 38), (⟨"CathedralCoinModel", "compareOf", "()I"⟩, 38), (⟨"CathedralCoinModel", "settle", "(I)V"⟩, 38), (⟨"CathedralCoinModel", "emit", "(II)V"⟩, 38), (⟨"CathedralCoinModel", "push", "(I)V"⟩, 38), (⟨"CathedralCoinModel", "whole", "()V"⟩, 38), (⟨"CathedralCoinModel", "beginOne", "(Z)I"⟩, 38), (⟨"CathedralCoinModel", "nameOf", "()I"⟩, 38), (⟨"CathedralCoinModel", "isOf", "(I)Z"⟩, 38), (⟨"CathedralCoinModel", "opensBy", "(I)I"⟩, 38), (⟨"CathedralCoinModel", "isAskAhead", "(Z)Z"⟩, 38), (⟨"CathedralCoinModel", "line", "(II)I"⟩, 38)]
theorem lw_r4 : ∀ q ∈ lw_privs_4, lw_okq q := List.forall_mem_cons.mpr ⟨lw_p48, List.forall_mem_cons.mpr ⟨lw_p49, List.forall_mem_cons.mpr ⟨lw_p50, List.forall_mem_cons.mpr ⟨lw_p51, List.forall_mem_cons.mpr ⟨lw_p52, List.forall_mem_cons.mpr ⟨lw_p53, List.forall_mem_cons.mpr ⟨lw_p54, List.forall_mem_cons.mpr ⟨lw_p55, List.forall_mem_cons.mpr ⟨lw_p56, List.forall_mem_cons.mpr ⟨lw_p57, List.forall_mem_cons.mpr ⟨lw_p58, List.forall_mem_cons.mpr ⟨lw_p59, List.forall_mem_cons.mpr ⟨lw_p60, List.forall_mem_cons.mpr ⟨lw_p61, List.forall_mem_cons.mpr ⟨lw_p62, List.forall_mem_cons.mpr ⟨lw_p63, fun _ h => absurd h List.not_mem_nil⟩⟩⟩⟩⟩⟩⟩⟩⟩⟩⟩⟩⟩⟩⟩⟩
theorem lw_p64 : lw_okq (⟨"CathedralCoinModel", "payment", "(I)I"⟩, 38) := ⟨⟨by decide +kernel, by decide +kernel⟩, List.mem_of_getElem? (i := 899) (by decide +kernel), List.mem_of_getElem? (i := 1163) (by decide +kernel), List.mem_of_getElem? (i := 1164) (by decide +kernel)⟩
theorem lw_p65 : lw_okq (⟨"CathedralCoinModel", "figure", "(II)I"⟩, 38) := ⟨⟨by decide +kernel, by decide +kernel⟩, List.mem_of_getElem? (i := 899) (by decide +kernel), List.mem_of_getElem? (i := 1167) (by decide +kernel), List.mem_of_getElem? (i := 1168) (by decide +kernel)⟩
theorem lw_p66 : lw_okq (⟨"CathedralCoinModel", "person", "(Z)I"⟩, 38) := ⟨⟨by decide +kernel, by decide +kernel⟩, List.mem_of_getElem? (i := 899) (by decide +kernel), List.mem_of_getElem? (i := 1172) (by decide +kernel), List.mem_of_getElem? (i := 1173) (by decide +kernel)⟩
theorem lw_p67 : lw_okq (⟨"CathedralCoinModel", "isTo", "()Z"⟩, 38) := ⟨⟨by decide +kernel, by decide +kernel⟩, List.mem_of_getElem? (i := 899) (by decide +kernel), List.mem_of_getElem? (i := 1176) (by decide +kernel), List.mem_of_getElem? (i := 1177) (by decide +kernel)⟩
theorem lw_p68 : lw_okq (⟨"CathedralCoinModel", "isFolk", "(I)Z"⟩, 38) := ⟨⟨by decide +kernel, by decide +kernel⟩, List.mem_of_getElem? (i := 899) (by decide +kernel), List.mem_of_getElem? (i := 1197) (by decide +kernel), List.mem_of_getElem? (i := 1198) (by decide +kernel)⟩
theorem lw_p69 : lw_okq (⟨"CathedralCoinModel", "boxed", "()I"⟩, 38) := ⟨⟨by decide +kernel, by decide +kernel⟩, List.mem_of_getElem? (i := 899) (by decide +kernel), List.mem_of_getElem? (i := 1201) (by decide +kernel), List.mem_of_getElem? (i := 1202) (by decide +kernel)⟩
theorem lw_p70 : lw_okq (⟨"CathedralCoinModel", "marksOf", "(I)I"⟩, 38) := ⟨⟨by decide +kernel, by decide +kernel⟩, List.mem_of_getElem? (i := 899) (by decide +kernel), List.mem_of_getElem? (i := 1206) (by decide +kernel), List.mem_of_getElem? (i := 1207) (by decide +kernel)⟩
theorem lw_p71 : lw_okq (⟨"CathedralCoinModel", "keep", "()V"⟩, 38) := ⟨⟨by decide +kernel, by decide +kernel⟩, List.mem_of_getElem? (i := 899) (by decide +kernel), List.mem_of_getElem? (i := 1210) (by decide +kernel), List.mem_of_getElem? (i := 1211) (by decide +kernel)⟩
theorem lw_p72 : lw_okq (⟨"CathedralCoinModel", "sumOf", "(IIII)I"⟩, 38) := ⟨⟨by decide +kernel, by decide +kernel⟩, List.mem_of_getElem? (i := 899) (by decide +kernel), List.mem_of_getElem? (i := 1218) (by decide +kernel), List.mem_of_getElem? (i := 1219) (by decide +kernel)⟩
theorem lw_p73 : lw_okq (⟨"CathedralCoinModel", "work", "(II)V"⟩, 38) := ⟨⟨by decide +kernel, by decide +kernel⟩, List.mem_of_getElem? (i := 899) (by decide +kernel), List.mem_of_getElem? (i := 1222) (by decide +kernel), List.mem_of_getElem? (i := 1223) (by decide +kernel)⟩
theorem lw_p74 : lw_okq (⟨"CathedralCoinModel", "passOne", "()I"⟩, 38) := ⟨⟨by decide +kernel, by decide +kernel⟩, List.mem_of_getElem? (i := 899) (by decide +kernel), List.mem_of_getElem? (i := 1244) (by decide +kernel), List.mem_of_getElem? (i := 1245) (by decide +kernel)⟩
theorem lw_p75 : lw_okq (⟨"CathedralCoinModel", "rubsOf", "(IIIII)I"⟩, 38) := ⟨⟨by decide +kernel, by decide +kernel⟩, List.mem_of_getElem? (i := 899) (by decide +kernel), List.mem_of_getElem? (i := 1248) (by decide +kernel), List.mem_of_getElem? (i := 1249) (by decide +kernel)⟩
theorem lw_p76 : lw_okq (⟨"CathedralCoinModel", "isPlayed", "(I)Z"⟩, 38) := ⟨⟨by decide +kernel, by decide +kernel⟩, List.mem_of_getElem? (i := 899) (by decide +kernel), List.mem_of_getElem? (i := 1256) (by decide +kernel), List.mem_of_getElem? (i := 1257) (by decide +kernel)⟩
theorem lw_p77 : lw_okq (⟨"CathedralCoinModel", "net", "()V"⟩, 38) := ⟨⟨by decide +kernel, by decide +kernel⟩, List.mem_of_getElem? (i := 899) (by decide +kernel), List.mem_of_getElem? (i := 1286) (by decide +kernel), List.mem_of_getElem? (i := 1287) (by decide +kernel)⟩
theorem lw_p78 : lw_okq (⟨"CathedralCoinModel", "balanceOf", "(I)I"⟩, 38) := ⟨⟨by decide +kernel, by decide +kernel⟩, List.mem_of_getElem? (i := 899) (by decide +kernel), List.mem_of_getElem? (i := 1290) (by decide +kernel), List.mem_of_getElem? (i := 1291) (by decide +kernel)⟩
theorem lw_p79 : lw_okq (⟨"CathedralCoinModel", "findMost", "(I)V"⟩, 38) := ⟨⟨by decide +kernel, by decide +kernel⟩, List.mem_of_getElem? (i := 899) (by decide +kernel), List.mem_of_getElem? (i := 1297) (by decide +kernel), List.mem_of_getElem? (i := 1298) (by decide +kernel)⟩
def lw_privs_5 : List (MethodName × Nat) := [(⟨"CathedralCoinModel", "payment", "(I)I"⟩, 38), (⟨"CathedralCoinModel", "figure", "(II)I"⟩, 38), (⟨"CathedralCoinModel", "person", "(Z)I"⟩, 38), (⟨"CathedralCoinModel", "isTo", "()Z"⟩, 38), (⟨"CathedralCoinModel", "isFolk", "(I)Z"⟩, 38), (⟨"CathedralCoinModel", "boxed", "()I"⟩, 38), (⟨"CathedralCoinModel", "marksOf", "(I)I"⟩, 38), (⟨"CathedralCoinModel", "keep", "()V"⟩, 38), (⟨"CathedralCoinModel", "sumOf", "(IIII)I"⟩, 38), (⟨"CathedralCoinModel", "work", "(II)V"⟩, 38), (⟨"CathedralCoinModel", "passOne", "()I"⟩, 38), (⟨"CathedralCoinModel", "rubsOf", "(IIIII)I"⟩, 38), (⟨"CathedralCoinModel", "isPlayed", "(I)Z"⟩, 38), (⟨"CathedralCoinModel", "net", "()V"⟩, 38), (⟨"CathedralCoinModel", "balanceOf", "(I)I"⟩, 38), (⟨"CathedralCoinModel", "findMost", "(I)V"⟩, 38)]
theorem lw_r5 : ∀ q ∈ lw_privs_5, lw_okq q := List.forall_mem_cons.mpr ⟨lw_p64, List.forall_mem_cons.mpr ⟨lw_p65, List.forall_mem_cons.mpr ⟨lw_p66, List.forall_mem_cons.mpr ⟨lw_p67, List.forall_mem_cons.mpr ⟨lw_p68, List.forall_mem_cons.mpr ⟨lw_p69, List.forall_mem_cons.mpr ⟨lw_p70, List.forall_mem_cons.mpr ⟨lw_p71, List.forall_mem_cons.mpr ⟨lw_p72, List.forall_mem_cons.mpr ⟨lw_p73, List.forall_mem_cons.mpr ⟨lw_p74, List.forall_mem_cons.mpr ⟨lw_p75, List.forall_mem_cons.mpr ⟨lw_p76, List.forall_mem_cons.mpr ⟨lw_p77, List.forall_mem_cons.mpr ⟨lw_p78, List.forall_mem_cons.mpr ⟨lw_p79, fun _ h => absurd h List.not_mem_nil⟩⟩⟩⟩⟩⟩⟩⟩⟩⟩⟩⟩⟩⟩⟩⟩
theorem lw_p80 : lw_okq (⟨"CathedralCoinModel", "partOf", "(I)I"⟩, 38) := ⟨⟨by decide +kernel, by decide +kernel⟩, List.mem_of_getElem? (i := 899) (by decide +kernel), List.mem_of_getElem? (i := 1304) (by decide +kernel), List.mem_of_getElem? (i := 1305) (by decide +kernel)⟩
theorem lw_p81 : lw_okq (⟨"CathedralCoinModel", "pairOff", "(I)V"⟩, 38) := ⟨⟨by decide +kernel, by decide +kernel⟩, List.mem_of_getElem? (i := 899) (by decide +kernel), List.mem_of_getElem? (i := 1308) (by decide +kernel), List.mem_of_getElem? (i := 1309) (by decide +kernel)⟩
theorem lw_p82 : lw_okq (⟨"CathedralCoinModel", "marry", "()I"⟩, 38) := ⟨⟨by decide +kernel, by decide +kernel⟩, List.mem_of_getElem? (i := 899) (by decide +kernel), List.mem_of_getElem? (i := 1316) (by decide +kernel), List.mem_of_getElem? (i := 1317) (by decide +kernel)⟩
theorem lw_p83 : lw_okq (⟨"CathedralCoinModel", "findLowers", "()V"⟩, 38) := ⟨⟨by decide +kernel, by decide +kernel⟩, List.mem_of_getElem? (i := 899) (by decide +kernel), List.mem_of_getElem? (i := 1320) (by decide +kernel), List.mem_of_getElem? (i := 1321) (by decide +kernel)⟩
theorem lw_p84 : lw_okq (⟨"CathedralCoinModel", "free", "(I)V"⟩, 38) := ⟨⟨by decide +kernel, by decide +kernel⟩, List.mem_of_getElem? (i := 899) (by decide +kernel), List.mem_of_getElem? (i := 1325) (by decide +kernel), List.mem_of_getElem? (i := 1326) (by decide +kernel)⟩
theorem lw_p85 : lw_okq (⟨"CathedralCoinModel", "canMarry", "(II)Z"⟩, 38) := ⟨⟨by decide +kernel, by decide +kernel⟩, List.mem_of_getElem? (i := 899) (by decide +kernel), List.mem_of_getElem? (i := 1329) (by decide +kernel), List.mem_of_getElem? (i := 1330) (by decide +kernel)⟩
theorem lw_p86 : lw_okq (⟨"CathedralCoinModel", "nextFree", "()I"⟩, 38) := ⟨⟨by decide +kernel, by decide +kernel⟩, List.mem_of_getElem? (i := 899) (by decide +kernel), List.mem_of_getElem? (i := 1333) (by decide +kernel), List.mem_of_getElem? (i := 1334) (by decide +kernel)⟩
theorem lw_p87 : lw_okq (⟨"CathedralCoinModel", "sumOfAll", "()I"⟩, 38) := ⟨⟨by decide +kernel, by decide +kernel⟩, List.mem_of_getElem? (i := 899) (by decide +kernel), List.mem_of_getElem? (i := 1337) (by decide +kernel), List.mem_of_getElem? (i := 1338) (by decide +kernel)⟩
theorem lw_p88 : lw_okq (⟨"CathedralCoinModel", "costOf", "(IIII)I"⟩, 38) := ⟨⟨by decide +kernel, by decide +kernel⟩, List.mem_of_getElem? (i := 899) (by decide +kernel), List.mem_of_getElem? (i := 1350) (by decide +kernel), List.mem_of_getElem? (i := 1351) (by decide +kernel)⟩
theorem lw_p89 : lw_okq (⟨"CathedralCoinModel", "canBe", "(II)Z"⟩, 38) := ⟨⟨by decide +kernel, by decide +kernel⟩, List.mem_of_getElem? (i := 899) (by decide +kernel), List.mem_of_getElem? (i := 1366) (by decide +kernel), List.mem_of_getElem? (i := 1367) (by decide +kernel)⟩
def lw_privs_6 : List (MethodName × Nat) := [(⟨"CathedralCoinModel", "partOf", "(I)I"⟩, 38), (⟨"CathedralCoinModel", "pairOff", "(I)V"⟩, 38), (⟨"CathedralCoinModel", "marry", "()I"⟩, 38), (⟨"CathedralCoinModel", "findLowers", "()V"⟩, 38), (⟨"CathedralCoinModel", "free", "(I)V"⟩, 38), (⟨"CathedralCoinModel", "canMarry", "(II)Z"⟩, 38), (⟨"CathedralCoinModel", "nextFree", "()I"⟩, 38), (⟨"CathedralCoinModel", "sumOfAll", "()I"⟩, 38), (⟨"CathedralCoinModel", "costOf", "(IIII)I"⟩, 38), (⟨"CathedralCoinModel", "canBe", "(II)Z"⟩, 38)]
theorem lw_r6 : ∀ q ∈ lw_privs_6, lw_okq q := List.forall_mem_cons.mpr ⟨lw_p80, List.forall_mem_cons.mpr ⟨lw_p81, List.forall_mem_cons.mpr ⟨lw_p82, List.forall_mem_cons.mpr ⟨lw_p83, List.forall_mem_cons.mpr ⟨lw_p84, List.forall_mem_cons.mpr ⟨lw_p85, List.forall_mem_cons.mpr ⟨lw_p86, List.forall_mem_cons.mpr ⟨lw_p87, List.forall_mem_cons.mpr ⟨lw_p88, List.forall_mem_cons.mpr ⟨lw_p89, fun _ h => absurd h List.not_mem_nil⟩⟩⟩⟩⟩⟩⟩⟩⟩⟩
def lw_privs : List (MethodName × Nat) := lw_privs_1 ++ (lw_privs_2 ++ (lw_privs_3 ++ (lw_privs_4 ++ (lw_privs_5 ++ (lw_privs_6)))))
def lw_tbl : List Cond := k2_sels lw_privs ++ tables_1
theorem lw_privs_ok : ∀ q ∈ lw_privs, lw_okq q := by
  show ∀ q ∈ lw_privs_1 ++ (lw_privs_2 ++ (lw_privs_3 ++ (lw_privs_4 ++ (lw_privs_5 ++ (lw_privs_6))))), lw_okq q
  exact List.forall_mem_append.mpr ⟨lw_r1, List.forall_mem_append.mpr ⟨lw_r2, List.forall_mem_append.mpr ⟨lw_r3, List.forall_mem_append.mpr ⟨lw_r4, List.forall_mem_append.mpr ⟨lw_r5, lw_r6⟩⟩⟩⟩⟩
-- ===== end of PART A; then your names; then what follows =====
def RX0 : String := "CathedralCoin$Debts"
def TX0 : u_T := fun k => match k with
  | 0 => ("CathedralCoin$Debts", "debtor", "[I", true)
  | 1 => ("CathedralCoin$Debts", "owed", "[I", true)
  | 2 => ("CathedralCoin$Debts", "amount", "[I", true)
  | _ => ("CathedralCoin$Debts", "count", "I", false)
def tyX0 : Nat → FieldType := fun k => match k with
  | 0 => .array .int
  | 1 => .array .int
  | 2 => .array .int
  | _ => .int
abbrev wsX00 : List Cond := u_ws RX0 TX0 4
theorem nmX0 : ∀ a, a < 4 → ∀ b, b < 4 → a ≠ b → (TX0 a).2.1 ≠ (TX0 b).2.1 := by decide +kernel
theorem tyX0_ok : ∀ k, k < 4 → parseFieldDescriptor (TX0 k).2.2.1 = some (tyX0 k) := by decide +kernel
abbrev cX0_init : ByteArray := prog_2_method_1_code
def yX0_init : MethodName := ⟨RX0, "<init>", "()V"⟩
abbrev cX0_becomeLike : ByteArray := prog_2_method_2_code
def yX0_becomeLike : MethodName := ⟨RX0, "becomeLike", "(LCathedralCoin$Debts;)V"⟩
abbrev cX0_forget : ByteArray := prog_2_method_3_code
def yX0_forget : MethodName := ⟨RX0, "forget", "()I"⟩
abbrev cX0_add : ByteArray := prog_2_method_4_code
def yX0_add : MethodName := ⟨RX0, "add", "(III)I"⟩
abbrev cX0_balance : ByteArray := prog_2_method_5_code
def yX0_balance : MethodName := ⟨RX0, "balance", "(I)I"⟩
def RX1 : String := "CathedralCoin$Marrying"
def TX1 : u_T := fun k => match k with
  | 0 => ("CathedralCoin$Marrying", "lower", "[I", true)
  | 1 => ("CathedralCoin$Marrying", "least", "[I", true)
  | 2 => ("CathedralCoin$Marrying", "chosen", "[I", true)
  | 3 => ("CathedralCoin$Marrying", "partner", "[I", true)
  | _ => ("CathedralCoin$Marrying", "together", "I", false)
def tyX1 : Nat → FieldType := fun k => match k with
  | 0 => .array .int
  | 1 => .array .int
  | 2 => .array .int
  | 3 => .array .int
  | _ => .int
abbrev wsX10 : List Cond := u_ws RX1 TX1 5
theorem nmX1 : ∀ a, a < 5 → ∀ b, b < 5 → a ≠ b → (TX1 a).2.1 ≠ (TX1 b).2.1 := by decide +kernel
theorem tyX1_ok : ∀ k, k < 5 → parseFieldDescriptor (TX1 k).2.2.1 = some (tyX1 k) := by decide +kernel
abbrev cX1_init : ByteArray := prog_3_method_1_code
def yX1_init : MethodName := ⟨RX1, "<init>", "()V"⟩
abbrev cX1_work : ByteArray := prog_3_method_2_code
def yX1_work : MethodName := ⟨RX1, "work", "([II)V"⟩
abbrev cX1_findLowers : ByteArray := prog_3_method_3_code
def yX1_findLowers : MethodName := ⟨RX1, "findLowers", "([II)V"⟩
abbrev cX1_marryLowestOf : ByteArray := prog_3_method_4_code
def yX1_marryLowestOf : MethodName := ⟨RX1, "marryLowestOf", "(II)V"⟩
def RX2 : String := "CathedralCoin$Netting"
def TX2 : u_T := fun k => match k with
  | 0 => ("CathedralCoin$Netting", "balance", "[I", true)
  | 1 => ("CathedralCoin$Netting", "sum", "[I", true)
  | 2 => ("CathedralCoin$Netting", "most", "[I", true)
  | 3 => ("CathedralCoin$Netting", "payer", "[I", true)
  | 4 => ("CathedralCoin$Netting", "payee", "[I", true)
  | 5 => ("CathedralCoin$Netting", "amount", "[I", true)
  | _ => ("CathedralCoin$Netting", "payments", "I", false)
def tyX2 : Nat → FieldType := fun k => match k with
  | 0 => .array .int
  | 1 => .array .int
  | 2 => .array .int
  | 3 => .array .int
  | 4 => .array .int
  | 5 => .array .int
  | _ => .int
abbrev wsX20 : List Cond := u_ws RX2 TX2 7
theorem nmX2 : ∀ a, a < 7 → ∀ b, b < 7 → a ≠ b → (TX2 a).2.1 ≠ (TX2 b).2.1 := by decide +kernel
theorem tyX2_ok : ∀ k, k < 7 → parseFieldDescriptor (TX2 k).2.2.1 = some (tyX2 k) := by decide +kernel
abbrev cX2_init : ByteArray := prog_4_method_1_code
def yX2_init : MethodName := ⟨RX2, "<init>", "()V"⟩
abbrev cX2_work : ByteArray := prog_4_method_2_code
def yX2_work : MethodName := ⟨RX2, "work", "(LCathedralCoin$Debts;I)V"⟩
abbrev cX2_countSets : ByteArray := prog_4_method_3_code
def yX2_countSets : MethodName := ⟨RX2, "countSets", "(I)V"⟩
abbrev cX2_lowestSet : ByteArray := prog_4_method_4_code
def yX2_lowestSet : MethodName := ⟨RX2, "lowestSet", "(I)I"⟩
abbrev cX2_payAlong : ByteArray := prog_4_method_5_code
def yX2_payAlong : MethodName := ⟨RX2, "payAlong", "(I)V"⟩
abbrev cX2_settle : ByteArray := prog_4_method_6_code
def yX2_settle : MethodName := ⟨RX2, "settle", "(III)V"⟩
def RX3 : String := "CathedralCoin$Reader"
def TX3 : u_T := fun k => match k with
  | 0 => ("CathedralCoin$Reader", "words", "[I", true)
  | 1 => ("CathedralCoin$Reader", "wordCount", "I", false)
  | 2 => ("CathedralCoin$Reader", "rows", "[I", true)
  | 3 => ("CathedralCoin$Reader", "clauses", "I", false)
  | 4 => ("CathedralCoin$Reader", "column", "I", false)
  | 5 => ("CathedralCoin$Reader", "toll", "[I", false)
  | 6 => ("CathedralCoin$Reader", "rubs", "[I", false)
  | 7 => ("CathedralCoin$Reader", "law", "I", false)
  | 8 => ("CathedralCoin$Reader", "tokens", "LCathedralCoin$Tokens;", false)
  | 9 => ("CathedralCoin$Reader", "at", "I", false)
  | 10 => ("CathedralCoin$Reader", "kind", "I", false)
  | 11 => ("CathedralCoin$Reader", "hasRead", "Z", false)
  | 12 => ("CathedralCoin$Reader", "found", "I", false)
  | _ => ("CathedralCoin$Reader", "place", "I", false)
def tyX3 : Nat → FieldType := fun k => match k with
  | 0 => .array .int
  | 1 => .int
  | 2 => .array .int
  | 3 => .int
  | 4 => .int
  | 5 => .array .int
  | 6 => .array .int
  | 7 => .int
  | 8 => .object "CathedralCoin$Tokens"
  | 9 => .int
  | 10 => .int
  | 11 => .boolean
  | 12 => .int
  | _ => .int
abbrev wsX30 : List Cond := u_ws RX3 TX3 14
theorem nmX3 : ∀ a, a < 14 → ∀ b, b < 14 → a ≠ b → (TX3 a).2.1 ≠ (TX3 b).2.1 := by decide +kernel
theorem tyX3_ok : ∀ k, k < 14 → parseFieldDescriptor (TX3 k).2.2.1 = some (tyX3 k) := by decide +kernel
abbrev cX3_init : ByteArray := prog_5_method_1_code
def yX3_init : MethodName := ⟨RX3, "<init>", "()V"⟩
abbrev cX3_read : ByteArray := prog_5_method_2_code
def yX3_read : MethodName := ⟨RX3, "read", "(LCathedralCoin$Tokens;)LCathedralCoin$Text;"⟩
abbrev cX3_advance : ByteArray := prog_5_method_3_code
def yX3_advance : MethodName := ⟨RX3, "advance", "()V"⟩
abbrev cX3_refuse : ByteArray := prog_5_method_4_code
def yX3_refuse : MethodName := ⟨RX3, "refuse", "(I)V"⟩
abbrev cX3_expect : ByteArray := prog_5_method_5_code
def yX3_expect : MethodName := ⟨RX3, "expect", "(I)V"⟩
abbrev cX3_readClause : ByteArray := prog_5_method_6_code
def yX3_readClause : MethodName := ⟨RX3, "readClause", "()V"⟩
abbrev cX3_readLaw : ByteArray := prog_5_method_7_code
def yX3_readLaw : MethodName := ⟨RX3, "readLaw", "()V"⟩
abbrev cX3_readDeed : ByteArray := prog_5_method_8_code
def yX3_readDeed : MethodName := ⟨RX3, "readDeed", "()V"⟩
abbrev cX3_takeNumber : ByteArray := prog_5_method_9_code
def yX3_takeNumber : MethodName := ⟨RX3, "takeNumber", "(II)I"⟩
abbrev cX3_put : ByteArray := prog_5_method_10_code
def yX3_put : MethodName := ⟨RX3, "put", "(I)V"⟩
abbrev cX3_say : ByteArray := prog_5_method_11_code
def yX3_say : MethodName := ⟨RX3, "say", "(II)V"⟩
abbrev cX3_leadHere : ByteArray := prog_5_method_12_code
def yX3_leadHere : MethodName := ⟨RX3, "leadHere", "(II)V"⟩
abbrev cX3_readSum : ByteArray := prog_5_method_13_code
def yX3_readSum : MethodName := ⟨RX3, "readSum", "(I)V"⟩
abbrev cX3_readProduct : ByteArray := prog_5_method_14_code
def yX3_readProduct : MethodName := ⟨RX3, "readProduct", "(I)V"⟩
abbrev cX3_readOne : ByteArray := prog_5_method_15_code
def yX3_readOne : MethodName := ⟨RX3, "readOne", "(I)V"⟩
abbrev cX3_opens : ByteArray := prog_5_method_16_code
def yX3_opens : MethodName := ⟨RX3, "opens", "(I)Z"⟩
abbrev cX3_readName : ByteArray := prog_5_method_17_code
def yX3_readName : MethodName := ⟨RX3, "readName", "()V"⟩
abbrev cX3_readChoice : ByteArray := prog_5_method_18_code
def yX3_readChoice : MethodName := ⟨RX3, "readChoice", "(I)V"⟩
abbrev cX3_readEither : ByteArray := prog_5_method_19_code
def yX3_readEither : MethodName := ⟨RX3, "readEither", "(I)V"⟩
abbrev cX3_readBoth : ByteArray := prog_5_method_20_code
def yX3_readBoth : MethodName := ⟨RX3, "readBoth", "(I)V"⟩
abbrev cX3_readAsk : ByteArray := prog_5_method_21_code
def yX3_readAsk : MethodName := ⟨RX3, "readAsk", "(I)V"⟩
def RX4 : String := "CathedralCoin$Steps"
def TX4 : u_T := fun k => match k with
  | 0 => ("CathedralCoin$Steps", "rows", "[I", true)
  | 1 => ("CathedralCoin$Steps", "first", "I", false)
  | _ => ("CathedralCoin$Steps", "count", "I", false)
def tyX4 : Nat → FieldType := fun k => match k with
  | 0 => .array .int
  | 1 => .int
  | _ => .int
abbrev wsX40 : List Cond := u_ws RX4 TX4 3
theorem nmX4 : ∀ a, a < 3 → ∀ b, b < 3 → a ≠ b → (TX4 a).2.1 ≠ (TX4 b).2.1 := by decide +kernel
theorem tyX4_ok : ∀ k, k < 3 → parseFieldDescriptor (TX4 k).2.2.1 = some (tyX4 k) := by decide +kernel
abbrev cX4_init : ByteArray := prog_6_method_1_code
def yX4_init : MethodName := ⟨RX4, "<init>", "()V"⟩
abbrev cX4_becomeLike : ByteArray := prog_6_method_2_code
def yX4_becomeLike : MethodName := ⟨RX4, "becomeLike", "(LCathedralCoin$Steps;)V"⟩
abbrev cX4_keep : ByteArray := prog_6_method_3_code
def yX4_keep : MethodName := ⟨RX4, "keep", "(LCathedralCoin$Town;)V"⟩
abbrev cX4_takeBack : ByteArray := prog_6_method_4_code
def yX4_takeBack : MethodName := ⟨RX4, "takeBack", "(LCathedralCoin$Town;)Z"⟩
def RX5 : String := "CathedralCoin$Text"
def TX5 : u_T := fun k => match k with
  | 0 => ("CathedralCoin$Text", "toll", "[I", true)
  | 1 => ("CathedralCoin$Text", "rubs", "[I", true)
  | 2 => ("CathedralCoin$Text", "clauses", "I", true)
  | _ => ("CathedralCoin$Text", "rows", "[I", true)
def tyX5 : Nat → FieldType := fun k => match k with
  | 0 => .array .int
  | 1 => .array .int
  | 2 => .int
  | _ => .array .int
abbrev wsX50 : List Cond := u_ws RX5 TX5 4
theorem nmX5 : ∀ a, a < 4 → ∀ b, b < 4 → a ≠ b → (TX5 a).2.1 ≠ (TX5 b).2.1 := by decide +kernel
theorem tyX5_ok : ∀ k, k < 4 → parseFieldDescriptor (TX5 k).2.2.1 = some (tyX5 k) := by decide +kernel
abbrev cX5_init : ByteArray := prog_7_method_1_code
def yX5_init : MethodName := ⟨RX5, "<init>", "([I[II[I)V"⟩
abbrev cX5_number : ByteArray := prog_7_method_2_code
def yX5_number : MethodName := ⟨RX5, "number", "(II)I"⟩
def RX6 : String := "CathedralCoin$Tokens"
def TX6 : u_T := fun k => match k with
  | 0 => ("CathedralCoin$Tokens", "kinds", "[I", true)
  | 1 => ("CathedralCoin$Tokens", "places", "[I", true)
  | 2 => ("CathedralCoin$Tokens", "numbers", "[I", true)
  | 3 => ("CathedralCoin$Tokens", "count", "I", false)
  | 4 => ("CathedralCoin$Tokens", "bytes", "[I", false)
  | 5 => ("CathedralCoin$Tokens", "length", "I", false)
  | _ => ("CathedralCoin$Tokens", "behind", "I", false)
def tyX6 : Nat → FieldType := fun k => match k with
  | 0 => .array .int
  | 1 => .array .int
  | 2 => .array .int
  | 3 => .int
  | 4 => .array .int
  | 5 => .int
  | _ => .int
abbrev wsX60 : List Cond := u_ws RX6 TX6 7
theorem nmX6 : ∀ a, a < 7 → ∀ b, b < 7 → a ≠ b → (TX6 a).2.1 ≠ (TX6 b).2.1 := by decide +kernel
theorem tyX6_ok : ∀ k, k < 7 → parseFieldDescriptor (TX6 k).2.2.1 = some (tyX6 k) := by decide +kernel
abbrev cX6_init : ByteArray := prog_8_method_1_code
def yX6_init : MethodName := ⟨RX6, "<init>", "()V"⟩
abbrev cX6_scan : ByteArray := prog_8_method_2_code
def yX6_scan : MethodName := ⟨RX6, "scan", "([II)V"⟩
abbrev cX6_kindAt : ByteArray := prog_8_method_3_code
def yX6_kindAt : MethodName := ⟨RX6, "kindAt", "(I)I"⟩
abbrev cX6_placeAt : ByteArray := prog_8_method_4_code
def yX6_placeAt : MethodName := ⟨RX6, "placeAt", "(I)I"⟩
abbrev cX6_numberAt : ByteArray := prog_8_method_5_code
def yX6_numberAt : MethodName := ⟨RX6, "numberAt", "(I)I"⟩
abbrev cX6_scanOne : ByteArray := prog_8_method_6_code
def yX6_scanOne : MethodName := ⟨RX6, "scanOne", "(I)V"⟩
abbrev cX6_byteAt : ByteArray := prog_8_method_7_code
def yX6_byteAt : MethodName := ⟨RX6, "byteAt", "(I)I"⟩
abbrev cX6_isBlank : ByteArray := prog_8_method_8_code
def yX6_isBlank : MethodName := ⟨RX6, "isBlank", "(I)Z"⟩
abbrev cX6_isLetter : ByteArray := prog_8_method_9_code
def yX6_isLetter : MethodName := ⟨RX6, "isLetter", "(I)Z"⟩
abbrev cX6_isDigit : ByteArray := prog_8_method_10_code
def yX6_isDigit : MethodName := ⟨RX6, "isDigit", "(I)Z"⟩
abbrev cX6_takeWord : ByteArray := prog_8_method_11_code
def yX6_takeWord : MethodName := ⟨RX6, "takeWord", "()I"⟩
abbrev cX6_stands : ByteArray := prog_8_method_12_code
def yX6_stands : MethodName := ⟨RX6, "stands", "(Ljava/lang/String;I)Z"⟩
abbrev cX6_spelling : ByteArray := prog_8_method_13_code
def yX6_spelling : MethodName := ⟨RX6, "spelling", "(I)Ljava/lang/String;"⟩
abbrev cX6_nameSpelling : ByteArray := prog_8_method_14_code
def yX6_nameSpelling : MethodName := ⟨RX6, "nameSpelling", "(I)Ljava/lang/String;"⟩
abbrev cX6_takeNumber : ByteArray := prog_8_method_15_code
def yX6_takeNumber : MethodName := ⟨RX6, "takeNumber", "()I"⟩
abbrev cX6_takeSign : ByteArray := prog_8_method_16_code
def yX6_takeSign : MethodName := ⟨RX6, "takeSign", "(I)I"⟩
abbrev cX6_signKind : ByteArray := prog_8_method_17_code
def yX6_signKind : MethodName := ⟨RX6, "signKind", "(IZ)I"⟩
def RX7 : String := "CathedralCoin$Town"
def TX7 : u_T := fun k => match k with
  | 0 => ("CathedralCoin$Town", "works", "LCathedralCoin$Works;", true)
  | 1 => ("CathedralCoin$Town", "folk", "I", false)
  | 2 => ("CathedralCoin$Town", "marks", "[I", true)
  | 3 => ("CathedralCoin$Town", "sleeves", "[I", true)
  | 4 => ("CathedralCoin$Town", "day", "I", false)
  | 5 => ("CathedralCoin$Town", "rain", "I", false)
  | 6 => ("CathedralCoin$Town", "x", "I", false)
  | 7 => ("CathedralCoin$Town", "wet", "I", false)
  | 8 => ("CathedralCoin$Town", "texts", "[LCathedralCoin$Text;", true)
  | 9 => ("CathedralCoin$Town", "textCount", "I", false)
  | 10 => ("CathedralCoin$Town", "ruling", "I", false)
  | 11 => ("CathedralCoin$Town", "steps", "LCathedralCoin$Steps;", true)
  | 12 => ("CathedralCoin$Town", "debts", "LCathedralCoin$Debts;", true)
  | 13 => ("CathedralCoin$Town", "seen", "[I", true)
  | _ => ("CathedralCoin$Town", "seenCount", "I", false)
def tyX7 : Nat → FieldType := fun k => match k with
  | 0 => .object "CathedralCoin$Works"
  | 1 => .int
  | 2 => .array .int
  | 3 => .array .int
  | 4 => .int
  | 5 => .int
  | 6 => .int
  | 7 => .int
  | 8 => .array (.object "CathedralCoin$Text")
  | 9 => .int
  | 10 => .int
  | 11 => .object "CathedralCoin$Steps"
  | 12 => .object "CathedralCoin$Debts"
  | 13 => .array .int
  | _ => .int
abbrev wsX70 : List Cond := u_ws RX7 TX7 15
theorem nmX7 : ∀ a, a < 15 → ∀ b, b < 15 → a ≠ b → (TX7 a).2.1 ≠ (TX7 b).2.1 := by decide +kernel
theorem tyX7_ok : ∀ k, k < 15 → parseFieldDescriptor (TX7 k).2.2.1 = some (tyX7 k) := by decide +kernel
abbrev cX7_init : ByteArray := prog_9_method_1_code
def yX7_init : MethodName := ⟨RX7, "<init>", "()V"⟩
abbrev cX7_becomeLike : ByteArray := prog_9_method_2_code
def yX7_becomeLike : MethodName := ⟨RX7, "becomeLike", "(LCathedralCoin$Town;)V"⟩
abbrev cX7_isFolk : ByteArray := prog_9_method_3_code
def yX7_isFolk : MethodName := ⟨RX7, "isFolk", "(I)Z"⟩
abbrev cX7_isText : ByteArray := prog_9_method_4_code
def yX7_isText : MethodName := ⟨RX7, "isText", "(I)Z"⟩
abbrev cX7_textAt : ByteArray := prog_9_method_5_code
def yX7_textAt : MethodName := ⟨RX7, "textAt", "(I)LCathedralCoin$Text;"⟩
abbrev cX7_addText : ByteArray := prog_9_method_6_code
def yX7_addText : MethodName := ⟨RX7, "addText", "(LCathedralCoin$Text;)I"⟩
abbrev cX7_welcome : ByteArray := prog_9_method_7_code
def yX7_welcome : MethodName := ⟨RX7, "welcome", "(I)I"⟩
abbrev cX7_marksOfFolk : ByteArray := prog_9_method_8_code
def yX7_marksOfFolk : MethodName := ⟨RX7, "marksOfFolk", "()I"⟩
abbrev cX7_box : ByteArray := prog_9_method_9_code
def yX7_box : MethodName := ⟨RX7, "box", "()I"⟩
abbrev cX7_give : ByteArray := prog_9_method_10_code
def yX7_give : MethodName := ⟨RX7, "give", "(II)I"⟩
abbrev cX7_handOver : ByteArray := prog_9_method_11_code
def yX7_handOver : MethodName := ⟨RX7, "handOver", "(IIII)I"⟩
abbrev cX7_toll : ByteArray := prog_9_method_12_code
def yX7_toll : MethodName := ⟨RX7, "toll", "(III)I"⟩
abbrev cX7_letGoBy : ByteArray := prog_9_method_13_code
def yX7_letGoBy : MethodName := ⟨RX7, "letGoBy", "(I)I"⟩
abbrev cX7_oneDay : ByteArray := prog_9_method_14_code
def yX7_oneDay : MethodName := ⟨RX7, "oneDay", "()V"⟩
abbrev cX7_rubs : ByteArray := prog_9_method_15_code
def yX7_rubs : MethodName := ⟨RX7, "rubs", "(LCathedralCoin$Text;IIII)I"⟩
abbrev cX7_carryOut : ByteArray := prog_9_method_16_code
def yX7_carryOut : MethodName := ⟨RX7, "carryOut", "(LCathedralCoin$Text;I)Z"⟩
abbrev cX7_takeBack : ByteArray := prog_9_method_17_code
def yX7_takeBack : MethodName := ⟨RX7, "takeBack", "()I"⟩
abbrev cX7_partOfBell : ByteArray := prog_9_method_18_code
def yX7_partOfBell : MethodName := ⟨RX7, "partOfBell", "(II)I"⟩
abbrev cX7_marksBehind : ByteArray := prog_9_method_19_code
def yX7_marksBehind : MethodName := ⟨RX7, "marksBehind", "(ILCathedralCoin$Text;II)I"⟩
abbrev cX7_bestText : ByteArray := prog_9_method_20_code
def yX7_bestText : MethodName := ⟨RX7, "bestText", "(II)I"⟩
abbrev cX7_weathers : ByteArray := prog_9_method_21_code
def yX7_weathers : MethodName := ⟨RX7, "weathers", "(II)I"⟩
abbrev cX7_fittingDays : ByteArray := prog_9_method_22_code
def yX7_fittingDays : MethodName := ⟨RX7, "fittingDays", "(II)I"⟩
def RX8 : String := "CathedralCoin$Works"
def TX8 : u_T := fun k => match k with
  | 0 => ("CathedralCoin$Works", "names", "[I", true)
  | 1 => ("CathedralCoin$Works", "values", "[I", true)
  | _ => ("CathedralCoin$Works", "height", "I", false)
def tyX8 : Nat → FieldType := fun k => match k with
  | 0 => .array .int
  | 1 => .array .int
  | _ => .int
abbrev wsX80 : List Cond := u_ws RX8 TX8 3
theorem nmX8 : ∀ a, a < 3 → ∀ b, b < 3 → a ≠ b → (TX8 a).2.1 ≠ (TX8 b).2.1 := by decide +kernel
theorem tyX8_ok : ∀ k, k < 3 → parseFieldDescriptor (TX8 k).2.2.1 = some (tyX8 k) := by decide +kernel
abbrev cX8_init : ByteArray := prog_10_method_1_code
def yX8_init : MethodName := ⟨RX8, "<init>", "()V"⟩
abbrev cX8_word : ByteArray := prog_10_method_2_code
def yX8_word : MethodName := ⟨RX8, "word", "(II)I"⟩
abbrev cX8_name : ByteArray := prog_10_method_3_code
def yX8_name : MethodName := ⟨RX8, "name", "(II)V"⟩
abbrev cX8_value : ByteArray := prog_10_method_4_code
def yX8_value : MethodName := ⟨RX8, "value", "([I)I"⟩
abbrev cX8_work : ByteArray := prog_10_method_5_code
def yX8_work : MethodName := ⟨RX8, "work", "(II)V"⟩
abbrev cX8_reckon : ByteArray := prog_10_method_6_code
def yX8_reckon : MethodName := ⟨RX8, "reckon", "(IJJ)J"⟩
abbrev cX8_isTrue : ByteArray := prog_10_method_7_code
def yX8_isTrue : MethodName := ⟨RX8, "isTrue", "(III)Z"⟩
abbrev cX8_push : ByteArray := prog_10_method_8_code
def yX8_push : MethodName := ⟨RX8, "push", "(J)V"⟩
abbrev cX8_pop : ByteArray := prog_10_method_9_code
def yX8_pop : MethodName := ⟨RX8, "pop", "()I"⟩
def RX9 : String := "CathedralCoin"
def TX9 : u_T := fun k => match k with
  | 0 => ("CathedralCoin", "town", "LCathedralCoin$Town;", true)
  | 1 => ("CathedralCoin", "kept", "LCathedralCoin$Town;", true)
  | 2 => ("CathedralCoin", "tokens", "LCathedralCoin$Tokens;", true)
  | 3 => ("CathedralCoin", "reader", "LCathedralCoin$Reader;", true)
  | 4 => ("CathedralCoin", "netting", "LCathedralCoin$Netting;", true)
  | 5 => ("CathedralCoin", "marrying", "LCathedralCoin$Marrying;", true)
  | 6 => ("CathedralCoin", "tape", "[I", true)
  | _ => ("CathedralCoin", "taped", "I", false)
def tyX9 : Nat → FieldType := fun k => match k with
  | 0 => .object "CathedralCoin$Town"
  | 1 => .object "CathedralCoin$Town"
  | 2 => .object "CathedralCoin$Tokens"
  | 3 => .object "CathedralCoin$Reader"
  | 4 => .object "CathedralCoin$Netting"
  | 5 => .object "CathedralCoin$Marrying"
  | 6 => .array .int
  | _ => .int
abbrev wsX90 : List Cond := u_ws RX9 TX9 8
theorem nmX9 : ∀ a, a < 8 → ∀ b, b < 8 → a ≠ b → (TX9 a).2.1 ≠ (TX9 b).2.1 := by decide +kernel
theorem tyX9_ok : ∀ k, k < 8 → parseFieldDescriptor (TX9 k).2.2.1 = some (tyX9 k) := by decide +kernel
abbrev cX9_init : ByteArray := prog_1_method_1_code
def yX9_init : MethodName := ⟨RX9, "<init>", "()V"⟩
abbrev cX9_folk : ByteArray := prog_1_method_2_code
def yX9_folk : MethodName := ⟨RX9, "folk", "(I)I"⟩
abbrev cX9_weather : ByteArray := prog_1_method_3_code
def yX9_weather : MethodName := ⟨RX9, "weather", "(II)Z"⟩
abbrev cX9_feed : ByteArray := prog_1_method_4_code
def yX9_feed : MethodName := ⟨RX9, "feed", "(IIIII)I"⟩
abbrev cX9_putBytes : ByteArray := prog_1_method_5_code
def yX9_putBytes : MethodName := ⟨RX9, "putBytes", "(I)V"⟩
abbrev cX9_end : ByteArray := prog_1_method_6_code
def yX9_end : MethodName := ⟨RX9, "end", "(I)I"⟩
abbrev cX9_text : ByteArray := prog_1_method_7_code
def yX9_text : MethodName := ⟨RX9, "text", "()I"⟩
abbrev cX9_fault : ByteArray := prog_1_method_8_code
def yX9_fault : MethodName := ⟨RX9, "fault", "(I)I"⟩
abbrev cX9_by : ByteArray := prog_1_method_9_code
def yX9_by : MethodName := ⟨RX9, "by", "(I)Z"⟩
abbrev cX9_grant : ByteArray := prog_1_method_10_code
def yX9_grant : MethodName := ⟨RX9, "grant", "(II)I"⟩
abbrev cX9_pay : ByteArray := prog_1_method_11_code
def yX9_pay : MethodName := ⟨RX9, "pay", "(IIII)I"⟩
abbrev cX9_pass : ByteArray := prog_1_method_12_code
def yX9_pass : MethodName := ⟨RX9, "pass", "(I)I"⟩
abbrev cX9_played : ByteArray := prog_1_method_13_code
def yX9_played : MethodName := ⟨RX9, "played", "(I)I"⟩
abbrev cX9_undo : ByteArray := prog_1_method_14_code
def yX9_undo : MethodName := ⟨RX9, "undo", "()I"⟩
abbrev cX9_marks : ByteArray := prog_1_method_15_code
def yX9_marks : MethodName := ⟨RX9, "marks", "(I)I"⟩
abbrev cX9_share : ByteArray := prog_1_method_16_code
def yX9_share : MethodName := ⟨RX9, "share", "(II)I"⟩
abbrev cX9_owes : ByteArray := prog_1_method_17_code
def yX9_owes : MethodName := ⟨RX9, "owes", "(III)I"⟩
abbrev cX9_netted : ByteArray := prog_1_method_18_code
def yX9_netted : MethodName := ⟨RX9, "netted", "(II)I"⟩
abbrev cX9_married : ByteArray := prog_1_method_19_code
def yX9_married : MethodName := ⟨RX9, "married", "(I)I"⟩
abbrev cX9_bell : ByteArray := prog_1_method_20_code
def yX9_bell : MethodName := ⟨RX9, "bell", "(II)I"⟩
abbrev cX9_cost : ByteArray := prog_1_method_21_code
def yX9_cost : MethodName := ⟨RX9, "cost", "(IIIZ)I"⟩
abbrev cX9_best : ByteArray := prog_1_method_22_code
def yX9_best : MethodName := ⟨RX9, "best", "(IZ)I"⟩
abbrev cX9_seen : ByteArray := prog_1_method_23_code
def yX9_seen : MethodName := ⟨RX9, "seen", "(I)I"⟩
abbrev cX9_rubbed : ByteArray := prog_1_method_24_code
def yX9_rubbed : MethodName := ⟨RX9, "rubbed", "(II)I"⟩
abbrev cX9_image : ByteArray := prog_1_method_25_code
def yX9_image : MethodName := ⟨RX9, "image", "()I"⟩
abbrev cX9_back : ByteArray := prog_1_method_26_code
def yX9_back : MethodName := ⟨RX9, "back", "()I"⟩
abbrev cX9_about : ByteArray := prog_1_method_27_code
def yX9_about : MethodName := ⟨RX9, "about", "(I)I"⟩
abbrev cX9_aboutAll : ByteArray := prog_1_method_28_code
def yX9_aboutAll : MethodName := ⟨RX9, "aboutAll", "(I)I"⟩
abbrev cX9_isWithin : ByteArray := prog_1_method_29_code
def yX9_isWithin : MethodName := ⟨RX9, "isWithin", "(III)Z"⟩
abbrev cX9_lowerNumber : ByteArray := prog_1_method_30_code
def yX9_lowerNumber : MethodName := ⟨RX9, "lowerNumber", "(I)I"⟩
def RX10 : String := "CathedralCoinModel"
def TX10 : u_T := fun k => match k with
  | 0 => ("CathedralCoinModel", "a", "[I", true)
  | 1 => ("CathedralCoinModel", "image", "[I", true)
  | 2 => ("CathedralCoinModel", "texts", "[I", true)
  | 3 => ("CathedralCoinModel", "tape", "[I", true)
  | 4 => ("CathedralCoinModel", "taped", "I", false)
  | 5 => ("CathedralCoinModel", "fault", "I", false)
  | 6 => ("CathedralCoinModel", "faultPlace", "I", false)
  | 7 => ("CathedralCoinModel", "at", "I", false)
  | 8 => ("CathedralCoinModel", "place", "I", false)
  | 9 => ("CathedralCoinModel", "token", "I", false)
  | 10 => ("CathedralCoinModel", "number", "I", false)
  | 11 => ("CathedralCoinModel", "word", "J", false)
  | 12 => ("CathedralCoinModel", "text0", "I", false)
  | 13 => ("CathedralCoinModel", "clauses", "I", false)
  | 14 => ("CathedralCoinModel", "written", "I", false)
  | 15 => ("CathedralCoinModel", "came", "I", false)
  | 16 => ("CathedralCoinModel", "pile", "[I", true)
  | 17 => ("CathedralCoinModel", "piled", "I", false)
  | 18 => ("CathedralCoinModel", "opens", "I", false)
  | 19 => ("CathedralCoinModel", "isWhole", "Z", false)
  | 20 => ("CathedralCoinModel", "sort0", "I", false)
  | 21 => ("CathedralCoinModel", "read", "I", false)
  | 22 => ("CathedralCoinModel", "once", "I", false)
  | 23 => ("CathedralCoinModel", "named", "[I", true)
  | 24 => ("CathedralCoinModel", "values", "[J", true)
  | 25 => ("CathedralCoinModel", "truth", "[Z", true)
  | 26 => ("CathedralCoinModel", "balances", "[I", true)
  | 27 => ("CathedralCoinModel", "sums", "[I", true)
  | 28 => ("CathedralCoinModel", "most", "[I", true)
  | 29 => ("CathedralCoinModel", "payments", "[I", true)
  | 30 => ("CathedralCoinModel", "paidMany", "I", false)
  | 31 => ("CathedralCoinModel", "partner", "[I", true)
  | 32 => ("CathedralCoinModel", "bestPartner", "[I", true)
  | 33 => ("CathedralCoinModel", "lowers", "[I", true)
  | 34 => ("CathedralCoinModel", "tried", "[I", true)
  | 35 => ("CathedralCoinModel", "firsts", "[I", true)
  | 36 => ("CathedralCoinModel", "pays", "[I", true)
  | _ => ("CathedralCoinModel", "cutOff", "[J", true)
def tyX10 : Nat → FieldType := fun k => match k with
  | 0 => .array .int
  | 1 => .array .int
  | 2 => .array .int
  | 3 => .array .int
  | 4 => .int
  | 5 => .int
  | 6 => .int
  | 7 => .int
  | 8 => .int
  | 9 => .int
  | 10 => .int
  | 11 => .long
  | 12 => .int
  | 13 => .int
  | 14 => .int
  | 15 => .int
  | 16 => .array .int
  | 17 => .int
  | 18 => .int
  | 19 => .boolean
  | 20 => .int
  | 21 => .int
  | 22 => .int
  | 23 => .array .int
  | 24 => .array .long
  | 25 => .array .boolean
  | 26 => .array .int
  | 27 => .array .int
  | 28 => .array .int
  | 29 => .array .int
  | 30 => .int
  | 31 => .array .int
  | 32 => .array .int
  | 33 => .array .int
  | 34 => .array .int
  | 35 => .array .int
  | 36 => .array .int
  | _ => .array .long
abbrev wsX100 : List Cond := u_ws RX10 TX10 38
theorem nmX10 : ∀ a, a < 38 → ∀ b, b < 38 → a ≠ b → (TX10 a).2.1 ≠ (TX10 b).2.1 := by decide +kernel
theorem tyX10_ok : ∀ k, k < 38 → parseFieldDescriptor (TX10 k).2.2.1 = some (tyX10 k) := by decide +kernel
abbrev cX10_init : ByteArray := prog_12_method_1_code
def yX10_init : MethodName := ⟨RX10, "<init>", "()V"⟩
abbrev cX10_copy : ByteArray := prog_12_method_2_code
def yX10_copy : MethodName := ⟨RX10, "copy", "([I[I)V"⟩
abbrev cX10_isIn : ByteArray := prog_12_method_3_code
def yX10_isIn : MethodName := ⟨RX10, "isIn", "(III)Z"⟩
abbrev cX10_between : ByteArray := prog_12_method_4_code
def yX10_between : MethodName := ⟨RX10, "between", "(JI)I"⟩
abbrev cX10_has : ByteArray := prog_12_method_5_code
def yX10_has : MethodName := ⟨RX10, "has", "(II)Z"⟩
abbrev cX10_isFolk : ByteArray := prog_12_method_6_code
def yX10_isFolk : MethodName := ⟨RX10, "isFolk", "(I)Z"⟩
abbrev cX10_marksOf : ByteArray := prog_12_method_7_code
def yX10_marksOf : MethodName := ⟨RX10, "marksOf", "(I)I"⟩
abbrev cX10_boxed : ByteArray := prog_12_method_8_code
def yX10_boxed : MethodName := ⟨RX10, "boxed", "()I"⟩
abbrev cX10_folk : ByteArray := prog_12_method_9_code
def yX10_folk : MethodName := ⟨RX10, "folk", "(I)I"⟩
abbrev cX10_weather : ByteArray := prog_12_method_10_code
def yX10_weather : MethodName := ⟨RX10, "weather", "(II)Z"⟩
abbrev cX10_four : ByteArray := prog_12_method_11_code
def yX10_four : MethodName := ⟨RX10, "four", "(I)V"⟩
abbrev cX10_feed : ByteArray := prog_12_method_12_code
def yX10_feed : MethodName := ⟨RX10, "feed", "(IIIII)I"⟩
abbrev cX10_end : ByteArray := prog_12_method_13_code
def yX10_end : MethodName := ⟨RX10, "end", "(I)I"⟩
abbrev cX10_byteAt : ByteArray := prog_12_method_14_code
def yX10_byteAt : MethodName := ⟨RX10, "byteAt", "(I)I"⟩
abbrev cX10_isLetter : ByteArray := prog_12_method_15_code
def yX10_isLetter : MethodName := ⟨RX10, "isLetter", "(I)Z"⟩
abbrev cX10_isDigit : ByteArray := prog_12_method_16_code
def yX10_isDigit : MethodName := ⟨RX10, "isDigit", "(I)Z"⟩
abbrev cX10_nextToken : ByteArray := prog_12_method_17_code
def yX10_nextToken : MethodName := ⟨RX10, "nextToken", "()V"⟩
abbrev cX10_w3 : ByteArray := prog_12_method_18_code
def yX10_w3 : MethodName := ⟨RX10, "w3", "(III)J"⟩
abbrev cX10_w5 : ByteArray := prog_12_method_19_code
def yX10_w5 : MethodName := ⟨RX10, "w5", "(IIIII)J"⟩
abbrev cX10_w4 : ByteArray := prog_12_method_20_code
def yX10_w4 : MethodName := ⟨RX10, "w4", "(IIII)J"⟩
abbrev cX10_isWord : ByteArray := prog_12_method_22_code
def yX10_isWord : MethodName := ⟨RX10, "isWord", "(J)Z"⟩
abbrev cX10_emit : ByteArray := prog_12_method_23_code
def yX10_emit : MethodName := ⟨RX10, "emit", "(II)V"⟩
abbrev cX10_push : ByteArray := prog_12_method_24_code
def yX10_push : MethodName := ⟨RX10, "push", "(I)V"⟩
abbrev cX10_rank : ByteArray := prog_12_method_25_code
def yX10_rank : MethodName := ⟨RX10, "rank", "(I)I"⟩
abbrev cX10_settle : ByteArray := prog_12_method_26_code
def yX10_settle : MethodName := ⟨RX10, "settle", "(I)V"⟩
abbrev cX10_whole : ByteArray := prog_12_method_27_code
def yX10_whole : MethodName := ⟨RX10, "whole", "()V"⟩
abbrev cX10_marker : ByteArray := prog_12_method_28_code
def yX10_marker : MethodName := ⟨RX10, "marker", "()I"⟩
abbrev cX10_kindOpen : ByteArray := prog_12_method_29_code
def yX10_kindOpen : MethodName := ⟨RX10, "kindOpen", "(Z)I"⟩
abbrev cX10_isCompared : ByteArray := prog_12_method_30_code
def yX10_isCompared : MethodName := ⟨RX10, "isCompared", "()Z"⟩
abbrev cX10_isAskAhead : ByteArray := prog_12_method_31_code
def yX10_isAskAhead : MethodName := ⟨RX10, "isAskAhead", "(Z)Z"⟩
abbrev cX10_opensBy : ByteArray := prog_12_method_32_code
def yX10_opensBy : MethodName := ⟨RX10, "opensBy", "(I)I"⟩
abbrev cX10_beginOne : ByteArray := prog_12_method_33_code
def yX10_beginOne : MethodName := ⟨RX10, "beginOne", "(Z)I"⟩
abbrev cX10_compareOf : ByteArray := prog_12_method_34_code
def yX10_compareOf : MethodName := ⟨RX10, "compareOf", "()I"⟩
abbrev cX10_betweenOf : ByteArray := prog_12_method_35_code
def yX10_betweenOf : MethodName := ⟨RX10, "betweenOf", "(Z)I"⟩
abbrev cX10_behindOne : ByteArray := prog_12_method_36_code
def yX10_behindOne : MethodName := ⟨RX10, "behindOne", "(Z)Z"⟩
abbrev cX10_parsed : ByteArray := prog_12_method_37_code
def yX10_parsed : MethodName := ⟨RX10, "parsed", "(Z)I"⟩
abbrev cX10_nameOf : ByteArray := prog_12_method_38_code
def yX10_nameOf : MethodName := ⟨RX10, "nameOf", "()I"⟩
abbrev cX10_isOf : ByteArray := prog_12_method_39_code
def yX10_isOf : MethodName := ⟨RX10, "isOf", "(I)Z"⟩
abbrev cX10_sortOf : ByteArray := prog_12_method_40_code
def yX10_sortOf : MethodName := ⟨RX10, "sortOf", "()I"⟩
abbrev cX10_figure : ByteArray := prog_12_method_41_code
def yX10_figure : MethodName := ⟨RX10, "figure", "(II)I"⟩
abbrev cX10_isTo : ByteArray := prog_12_method_42_code
def yX10_isTo : MethodName := ⟨RX10, "isTo", "()Z"⟩
abbrev cX10_person : ByteArray := prog_12_method_43_code
def yX10_person : MethodName := ⟨RX10, "person", "(Z)I"⟩
abbrev cX10_payment : ByteArray := prog_12_method_44_code
def yX10_payment : MethodName := ⟨RX10, "payment", "(I)I"⟩
abbrev cX10_line : ByteArray := prog_12_method_45_code
def yX10_line : MethodName := ⟨RX10, "line", "(II)I"⟩
abbrev cX10_clause : ByteArray := prog_12_method_46_code
def yX10_clause : MethodName := ⟨RX10, "clause", "()I"⟩
abbrev cX10_readText : ByteArray := prog_12_method_47_code
def yX10_readText : MethodName := ⟨RX10, "readText", "()I"⟩
abbrev cX10_text : ByteArray := prog_12_method_48_code
def yX10_text : MethodName := ⟨RX10, "text", "()I"⟩
abbrev cX10_fault : ByteArray := prog_12_method_49_code
def yX10_fault : MethodName := ⟨RX10, "fault", "(I)I"⟩
abbrev cX10_by : ByteArray := prog_12_method_50_code
def yX10_by : MethodName := ⟨RX10, "by", "(I)Z"⟩
abbrev cX10_clip : ByteArray := prog_12_method_51_code
def yX10_clip : MethodName := ⟨RX10, "clip", "(J)J"⟩
abbrev cX10_two : ByteArray := prog_12_method_52_code
def yX10_two : MethodName := ⟨RX10, "two", "(IJJ)J"⟩
abbrev cX10_isAsked : ByteArray := prog_12_method_53_code
def yX10_isAsked : MethodName := ⟨RX10, "isAsked", "(IJJ)Z"⟩
abbrev cX10_work : ByteArray := prog_12_method_54_code
def yX10_work : MethodName := ⟨RX10, "work", "(II)V"⟩
abbrev cX10_sumOf : ByteArray := prog_12_method_55_code
def yX10_sumOf : MethodName := ⟨RX10, "sumOf", "(IIII)I"⟩
abbrev cX10_rubsOf : ByteArray := prog_12_method_56_code
def yX10_rubsOf : MethodName := ⟨RX10, "rubsOf", "(IIIII)I"⟩
abbrev cX10_keep : ByteArray := prog_12_method_57_code
def yX10_keep : MethodName := ⟨RX10, "keep", "()V"⟩
abbrev cX10_undo : ByteArray := prog_12_method_58_code
def yX10_undo : MethodName := ⟨RX10, "undo", "()I"⟩
abbrev cX10_grant : ByteArray := prog_12_method_59_code
def yX10_grant : MethodName := ⟨RX10, "grant", "(II)I"⟩
abbrev cX10_pay : ByteArray := prog_12_method_60_code
def yX10_pay : MethodName := ⟨RX10, "pay", "(IIII)I"⟩
abbrev cX10_passOne : ByteArray := prog_12_method_61_code
def yX10_passOne : MethodName := ⟨RX10, "passOne", "()I"⟩
abbrev cX10_pass : ByteArray := prog_12_method_62_code
def yX10_pass : MethodName := ⟨RX10, "pass", "(I)I"⟩
abbrev cX10_isPlayed : ByteArray := prog_12_method_63_code
def yX10_isPlayed : MethodName := ⟨RX10, "isPlayed", "(I)Z"⟩
abbrev cX10_played : ByteArray := prog_12_method_64_code
def yX10_played : MethodName := ⟨RX10, "played", "(I)I"⟩
abbrev cX10_marks : ByteArray := prog_12_method_65_code
def yX10_marks : MethodName := ⟨RX10, "marks", "(I)I"⟩
abbrev cX10_common : ByteArray := prog_12_method_66_code
def yX10_common : MethodName := ⟨RX10, "common", "(II)I"⟩
abbrev cX10_lowerOf : ByteArray := prog_12_method_67_code
def yX10_lowerOf : MethodName := ⟨RX10, "lowerOf", "(I)I"⟩
abbrev cX10_share : ByteArray := prog_12_method_68_code
def yX10_share : MethodName := ⟨RX10, "share", "(II)I"⟩
abbrev cX10_owes : ByteArray := prog_12_method_69_code
def yX10_owes : MethodName := ⟨RX10, "owes", "(III)I"⟩
abbrev cX10_balanceOf : ByteArray := prog_12_method_70_code
def yX10_balanceOf : MethodName := ⟨RX10, "balanceOf", "(I)I"⟩
abbrev cX10_lowestOf : ByteArray := prog_12_method_71_code
def yX10_lowestOf : MethodName := ⟨RX10, "lowestOf", "(I)I"⟩
abbrev cX10_partOf : ByteArray := prog_12_method_72_code
def yX10_partOf : MethodName := ⟨RX10, "partOf", "(I)I"⟩
abbrev cX10_findMost : ByteArray := prog_12_method_73_code
def yX10_findMost : MethodName := ⟨RX10, "findMost", "(I)V"⟩
abbrev cX10_pairOff : ByteArray := prog_12_method_74_code
def yX10_pairOff : MethodName := ⟨RX10, "pairOff", "(I)V"⟩
abbrev cX10_net : ByteArray := prog_12_method_75_code
def yX10_net : MethodName := ⟨RX10, "net", "()V"⟩
abbrev cX10_netted : ByteArray := prog_12_method_76_code
def yX10_netted : MethodName := ⟨RX10, "netted", "(II)I"⟩
abbrev cX10_findLowers : ByteArray := prog_12_method_77_code
def yX10_findLowers : MethodName := ⟨RX10, "findLowers", "()V"⟩
abbrev cX10_nextFree : ByteArray := prog_12_method_78_code
def yX10_nextFree : MethodName := ⟨RX10, "nextFree", "()I"⟩
abbrev cX10_canMarry : ByteArray := prog_12_method_79_code
def yX10_canMarry : MethodName := ⟨RX10, "canMarry", "(II)Z"⟩
abbrev cX10_free : ByteArray := prog_12_method_80_code
def yX10_free : MethodName := ⟨RX10, "free", "(I)V"⟩
abbrev cX10_sumOfAll : ByteArray := prog_12_method_81_code
def yX10_sumOfAll : MethodName := ⟨RX10, "sumOfAll", "()I"⟩
abbrev cX10_marry : ByteArray := prog_12_method_82_code
def yX10_marry : MethodName := ⟨RX10, "marry", "()I"⟩
abbrev cX10_married : ByteArray := prog_12_method_83_code
def yX10_married : MethodName := ⟨RX10, "married", "(I)I"⟩
abbrev cX10_bell : ByteArray := prog_12_method_84_code
def yX10_bell : MethodName := ⟨RX10, "bell", "(II)I"⟩
abbrev cX10_costOf : ByteArray := prog_12_method_85_code
def yX10_costOf : MethodName := ⟨RX10, "costOf", "(IIII)I"⟩
abbrev cX10_cost : ByteArray := prog_12_method_86_code
def yX10_cost : MethodName := ⟨RX10, "cost", "(IIIZ)I"⟩
abbrev cX10_best : ByteArray := prog_12_method_87_code
def yX10_best : MethodName := ⟨RX10, "best", "(IZ)I"⟩
abbrev cX10_seen : ByteArray := prog_12_method_88_code
def yX10_seen : MethodName := ⟨RX10, "seen", "(I)I"⟩
abbrev cX10_canBe : ByteArray := prog_12_method_89_code
def yX10_canBe : MethodName := ⟨RX10, "canBe", "(II)Z"⟩
abbrev cX10_rubbed : ByteArray := prog_12_method_90_code
def yX10_rubbed : MethodName := ⟨RX10, "rubbed", "(II)I"⟩
abbrev cX10_image : ByteArray := prog_12_method_91_code
def yX10_image : MethodName := ⟨RX10, "image", "()I"⟩
abbrev cX10_back : ByteArray := prog_12_method_92_code
def yX10_back : MethodName := ⟨RX10, "back", "()I"⟩
abbrev cX10_about : ByteArray := prog_12_method_93_code
def yX10_about : MethodName := ⟨RX10, "about", "(I)I"⟩
def RJ6 : String := "java/lang/Integer"
def TJ6 : u_T := fun k => match k with
  | _ => ("", "", "", false)
def tyJ6 : Nat → FieldType := fun k => match k with
  | _ => .int
abbrev wsJ60 : List Cond := u_ws RJ6 TJ6 0
theorem nmJ6 : ∀ a, a < 0 → ∀ b, b < 0 → a ≠ b → (TJ6 a).2.1 ≠ (TJ6 b).2.1 := by decide +kernel
theorem tyJ6_ok : ∀ k, k < 0 → parseFieldDescriptor (TJ6 k).2.2.1 = some (tyJ6 k) := by decide +kernel
abbrev cJ6_numberOfTrailingZeros_0f7a4 : ByteArray := prog_14_method_48_code
def yJ6_numberOfTrailingZeros_0f7a4 : MethodName := ⟨RJ6, "numberOfTrailingZeros", "(I)I"⟩
abbrev cJ6_bitCount_0f7a4 : ByteArray := prog_14_method_49_code
def yJ6_bitCount_0f7a4 : MethodName := ⟨RJ6, "bitCount", "(I)I"⟩
def RJ9 : String := "java/lang/Math"
def TJ9 : u_T := fun k => match k with
  | _ => ("", "", "", false)
def tyJ9 : Nat → FieldType := fun k => match k with
  | _ => .int
abbrev wsJ90 : List Cond := u_ws RJ9 TJ9 0
theorem nmJ9 : ∀ a, a < 0 → ∀ b, b < 0 → a ≠ b → (TJ9 a).2.1 ≠ (TJ9 b).2.1 := by decide +kernel
theorem tyJ9_ok : ∀ k, k < 0 → parseFieldDescriptor (TJ9 k).2.2.1 = some (tyJ9 k) := by decide +kernel
abbrev cJ9_abs_0f7a4 : ByteArray := prog_15_method_59_code
def yJ9_abs_0f7a4 : MethodName := ⟨RJ9, "abs", "(I)I"⟩
abbrev cJ9_max_7cf53 : ByteArray := prog_15_method_65_code
def yJ9_max_7cf53 : MethodName := ⟨RJ9, "max", "(II)I"⟩
abbrev cJ9_min_7cf53 : ByteArray := prog_15_method_69_code
def yJ9_min_7cf53 : MethodName := ⟨RJ9, "min", "(II)I"⟩
def RJ0 : String := "java/lang/String"
def TJ0 : u_T := fun k => match k with
  | _ => ("", "", "", false)
def tyJ0 : Nat → FieldType := fun k => match k with
  | _ => .int
abbrev wsJ00 : List Cond := u_ws RJ0 TJ0 0
theorem nmJ0 : ∀ a, a < 0 → ∀ b, b < 0 → a ≠ b → (TJ0 a).2.1 ≠ (TJ0 b).2.1 := by decide +kernel
theorem tyJ0_ok : ∀ k, k < 0 → parseFieldDescriptor (TJ0 k).2.2.1 = some (tyJ0 k) := by decide +kernel
abbrev cJ0_length_8abf5 : ByteArray := prog_16_method_54_code
def yJ0_length_8abf5 : MethodName := ⟨RJ0, "length", "()I"⟩
abbrev cJ0_charAt_5068e : ByteArray := prog_16_method_56_code
def yJ0_charAt_5068e : MethodName := ⟨RJ0, "charAt", "(I)C"⟩
abbrev cJ0_coder_7d493 : ByteArray := prog_16_method_152_code
def yJ0_coder_7d493 : MethodName := ⟨RJ0, "coder", "()B"⟩
abbrev cJ0_isLatin1_aae02 : ByteArray := prog_16_method_154_code
def yJ0_isLatin1_aae02 : MethodName := ⟨RJ0, "isLatin1", "()Z"⟩
abbrev cJ0_checkIndex_df160 : ByteArray := prog_16_method_155_code
def yJ0_checkIndex_df160 : MethodName := ⟨RJ0, "checkIndex", "(II)V"⟩
def RJ1 : String := "java/lang/StringLatin1"
def TJ1 : u_T := fun k => match k with
  | _ => ("", "", "", false)
def tyJ1 : Nat → FieldType := fun k => match k with
  | _ => .int
abbrev wsJ10 : List Cond := u_ws RJ1 TJ1 0
theorem nmJ1 : ∀ a, a < 0 → ∀ b, b < 0 → a ≠ b → (TJ1 a).2.1 ≠ (TJ1 b).2.1 := by decide +kernel
theorem tyJ1_ok : ∀ k, k < 0 → parseFieldDescriptor (TJ1 k).2.2.1 = some (tyJ1 k) := by decide +kernel
abbrev cJ1_charAt_3b067 : ByteArray := prog_17_method_2_code
def yJ1_charAt_3b067 : MethodName := ⟨RJ1, "charAt", "([BI)C"⟩
def RJ7 : String := "java/util/Arrays"
def TJ7 : u_T := fun k => match k with
  | _ => ("", "", "", false)
def tyJ7 : Nat → FieldType := fun k => match k with
  | _ => .int
abbrev wsJ70 : List Cond := u_ws RJ7 TJ7 0
theorem nmJ7 : ∀ a, a < 0 → ∀ b, b < 0 → a ≠ b → (TJ7 a).2.1 ≠ (TJ7 b).2.1 := by decide +kernel
theorem tyJ7_ok : ∀ k, k < 0 → parseFieldDescriptor (TJ7 k).2.2.1 = some (tyJ7 k) := by decide +kernel
abbrev cJ7_copyOf_59c91 : ByteArray := prog_20_method_123_code
def yJ7_copyOf_59c91 : MethodName := ⟨RJ7, "copyOf", "([II)[I"⟩
def RJ3 : String := "jdk/internal/util/Preconditions"
def TJ3 : u_T := fun k => match k with
  | _ => ("", "", "", false)
def tyJ3 : Nat → FieldType := fun k => match k with
  | _ => .int
abbrev wsJ30 : List Cond := u_ws RJ3 TJ3 0
theorem nmJ3 : ∀ a, a < 0 → ∀ b, b < 0 → a ≠ b → (TJ3 a).2.1 ≠ (TJ3 b).2.1 := by decide +kernel
theorem tyJ3_ok : ∀ k, k < 0 → parseFieldDescriptor (TJ3 k).2.2.1 = some (tyJ3 k) := by decide +kernel
abbrev cJ3_checkIndex_8e157 : ByteArray := prog_21_method_11_code
def yJ3_checkIndex_8e157 : MethodName := ⟨RJ3, "checkIndex", "(IILjava/util/function/BiFunction;)I"⟩
def RL : String := "CathedralCoinLaw"
abbrev cL_law : ByteArray := code
def yL_law : MethodName := ⟨RL, "law", "([I)Z"⟩
abbrev vwCl : List vw_C := [(RX0, TX0, 4), (RX1, TX1, 5), (RX2, TX2, 7), (RX3, TX3, 14), (RX4, TX4, 3), (RX5, TX5, 4), (RX6, TX6, 7), (RX7, TX7, 15), (RX8, TX8, 3), (RX9, TX9, 8), (RX10, TX10, 38)]
