section
-- ===== PART A: goes FIRST, ahead of the names: the tables' words, and 'selects' of the private methods out of them =====
/-- a private method of a class that the tables say can be made, by its rows of tables_1 -/
def lw_okq (q : MethodName × Nat) : Prop := (q.1.cls ≠ "java/lang/invoke/MethodHandle" ∧ q.1.cls ≠ "java/lang/invoke/VarHandle") ∧ Cond.instantiable q.1.cls q.2 ∈ tables_1 ∧ Cond.privateMethod q.1 ∈ tables_1 ∧ Cond.instanceMethod q.1 ∈ tables_1
theorem lw_p0 : lw_okq (⟨"BlueCoats$Reader", "advance", "()V"⟩, 11) := ⟨⟨by decide +kernel, by decide +kernel⟩, List.mem_of_getElem? (i := 32) (by decide +kernel), List.mem_of_getElem? (i := 332) (by decide +kernel), List.mem_of_getElem? (i := 333) (by decide +kernel)⟩
theorem lw_p1 : lw_okq (⟨"BlueCoats$Reader", "signAt", "(I)I"⟩, 11) := ⟨⟨by decide +kernel, by decide +kernel⟩, List.mem_of_getElem? (i := 32) (by decide +kernel), List.mem_of_getElem? (i := 336) (by decide +kernel), List.mem_of_getElem? (i := 337) (by decide +kernel)⟩
theorem lw_p2 : lw_okq (⟨"BlueCoats$Reader", "scanDigits", "()V"⟩, 11) := ⟨⟨by decide +kernel, by decide +kernel⟩, List.mem_of_getElem? (i := 32) (by decide +kernel), List.mem_of_getElem? (i := 349) (by decide +kernel), List.mem_of_getElem? (i := 350) (by decide +kernel)⟩
theorem lw_p3 : lw_okq (⟨"BlueCoats$Reader", "begunLine", "()I"⟩, 11) := ⟨⟨by decide +kernel, by decide +kernel⟩, List.mem_of_getElem? (i := 32) (by decide +kernel), List.mem_of_getElem? (i := 354) (by decide +kernel), List.mem_of_getElem? (i := 355) (by decide +kernel)⟩
theorem lw_p4 : lw_okq (⟨"BlueCoats$Reader", "lineNamed", "()I"⟩, 11) := ⟨⟨by decide +kernel, by decide +kernel⟩, List.mem_of_getElem? (i := 32) (by decide +kernel), List.mem_of_getElem? (i := 358) (by decide +kernel), List.mem_of_getElem? (i := 359) (by decide +kernel)⟩
theorem lw_p5 : lw_okq (⟨"BlueCoats$Reader", "isWord", "(Ljava/lang/String;)Z"⟩, 11) := ⟨⟨by decide +kernel, by decide +kernel⟩, List.mem_of_getElem? (i := 32) (by decide +kernel), List.mem_of_getElem? (i := 363) (by decide +kernel), List.mem_of_getElem? (i := 364) (by decide +kernel)⟩
theorem lw_p6 : lw_okq (⟨"BlueCoats$Reader", "blame", "(I)V"⟩, 11) := ⟨⟨by decide +kernel, by decide +kernel⟩, List.mem_of_getElem? (i := 32) (by decide +kernel), List.mem_of_getElem? (i := 420) (by decide +kernel), List.mem_of_getElem? (i := 421) (by decide +kernel)⟩
theorem lw_p7 : lw_okq (⟨"BlueCoats$Reader", "readRest", "(I)V"⟩, 11) := ⟨⟨by decide +kernel, by decide +kernel⟩, List.mem_of_getElem? (i := 32) (by decide +kernel), List.mem_of_getElem? (i := 424) (by decide +kernel), List.mem_of_getElem? (i := 425) (by decide +kernel)⟩
theorem lw_p8 : lw_okq (⟨"BlueCoats$Reader", "readWays", "()V"⟩, 11) := ⟨⟨by decide +kernel, by decide +kernel⟩, List.mem_of_getElem? (i := 32) (by decide +kernel), List.mem_of_getElem? (i := 428) (by decide +kernel), List.mem_of_getElem? (i := 429) (by decide +kernel)⟩
theorem lw_p9 : lw_okq (⟨"BlueCoats$Reader", "wayNamed", "()I"⟩, 11) := ⟨⟨by decide +kernel, by decide +kernel⟩, List.mem_of_getElem? (i := 32) (by decide +kernel), List.mem_of_getElem? (i := 432) (by decide +kernel), List.mem_of_getElem? (i := 433) (by decide +kernel)⟩
theorem lw_p10 : lw_okq (⟨"BlueCoats$Reader", "readNumber", "(II)I"⟩, 11) := ⟨⟨by decide +kernel, by decide +kernel⟩, List.mem_of_getElem? (i := 32) (by decide +kernel), List.mem_of_getElem? (i := 438) (by decide +kernel), List.mem_of_getElem? (i := 439) (by decide +kernel)⟩
theorem lw_p11 : lw_okq (⟨"BlueCoats$Reader", "readAges", "()V"⟩, 11) := ⟨⟨by decide +kernel, by decide +kernel⟩, List.mem_of_getElem? (i := 32) (by decide +kernel), List.mem_of_getElem? (i := 442) (by decide +kernel), List.mem_of_getElem? (i := 443) (by decide +kernel)⟩
theorem lw_p12 : lw_okq (⟨"BlueCoats$Reader", "endLine", "()V"⟩, 11) := ⟨⟨by decide +kernel, by decide +kernel⟩, List.mem_of_getElem? (i := 32) (by decide +kernel), List.mem_of_getElem? (i := 446) (by decide +kernel), List.mem_of_getElem? (i := 447) (by decide +kernel)⟩
theorem lw_p13 : lw_okq (⟨"BlueCoats", "chosenBy", "(I)I"⟩, 8) := ⟨⟨by decide +kernel, by decide +kernel⟩, List.mem_of_getElem? (i := 24) (by decide +kernel), List.mem_of_getElem? (i := 514) (by decide +kernel), List.mem_of_getElem? (i := 515) (by decide +kernel)⟩
theorem lw_p14 : lw_okq (⟨"BlueCoats", "chosenByTurn", "()I"⟩, 8) := ⟨⟨by decide +kernel, by decide +kernel⟩, List.mem_of_getElem? (i := 24) (by decide +kernel), List.mem_of_getElem? (i := 518) (by decide +kernel), List.mem_of_getElem? (i := 519) (by decide +kernel)⟩
theorem lw_p15 : lw_okq (⟨"BlueCoats", "mayCome", "(I)Z"⟩, 8) := ⟨⟨by decide +kernel, by decide +kernel⟩, List.mem_of_getElem? (i := 24) (by decide +kernel), List.mem_of_getElem? (i := 526) (by decide +kernel), List.mem_of_getElem? (i := 527) (by decide +kernel)⟩
def lw_privs_1 : List (MethodName × Nat) := [(⟨"BlueCoats$Reader", "advance", "()V"⟩, 11), (⟨"BlueCoats$Reader", "signAt", "(I)I"⟩, 11), (⟨"BlueCoats$Reader", "scanDigits", "()V"⟩, 11), (⟨"BlueCoats$Reader", "begunLine", "()I"⟩, 11), (⟨"BlueCoats$Reader", "lineNamed", "()I"⟩, 11), (⟨"BlueCoats$Reader", "isWord", "(Ljava/lang/String;)Z"⟩, 11), (⟨"BlueCoats$Reader", "blame", "(I)V"⟩, 11), (⟨"BlueCoats$Reader", "readRest", "(I)V"⟩, 11), (⟨"BlueCoats$Reader", "readWays", "()V"⟩, 11), (⟨"BlueCoats$Reader", "wayNamed", "()I"⟩, 11), (⟨"BlueCoats$Reader", "readNumber", "(II)I"⟩, 11), (⟨"BlueCoats$Reader", "readAges", "()V"⟩, 11), (⟨"BlueCoats$Reader", "endLine", "()V"⟩, 11), (⟨"BlueCoats", "chosenBy", "(I)I"⟩, 8), (⟨"BlueCoats", "chosenByTurn", "()I"⟩, 8), (⟨"BlueCoats", "mayCome", "(I)Z"⟩, 8)]
theorem lw_r1 : ∀ q ∈ lw_privs_1, lw_okq q := List.forall_mem_cons.mpr ⟨lw_p0, List.forall_mem_cons.mpr ⟨lw_p1, List.forall_mem_cons.mpr ⟨lw_p2, List.forall_mem_cons.mpr ⟨lw_p3, List.forall_mem_cons.mpr ⟨lw_p4, List.forall_mem_cons.mpr ⟨lw_p5, List.forall_mem_cons.mpr ⟨lw_p6, List.forall_mem_cons.mpr ⟨lw_p7, List.forall_mem_cons.mpr ⟨lw_p8, List.forall_mem_cons.mpr ⟨lw_p9, List.forall_mem_cons.mpr ⟨lw_p10, List.forall_mem_cons.mpr ⟨lw_p11, List.forall_mem_cons.mpr ⟨lw_p12, List.forall_mem_cons.mpr ⟨lw_p13, List.forall_mem_cons.mpr ⟨lw_p14, List.forall_mem_cons.mpr ⟨lw_p15, fun _ h => absurd h List.not_mem_nil⟩⟩⟩⟩⟩⟩⟩⟩⟩⟩⟩⟩⟩⟩⟩⟩
theorem lw_p16 : lw_okq (⟨"BlueCoats", "chosenByVote", "()I"⟩, 8) := ⟨⟨by decide +kernel, by decide +kernel⟩, List.mem_of_getElem? (i := 24) (by decide +kernel), List.mem_of_getElem? (i := 530) (by decide +kernel), List.mem_of_getElem? (i := 531) (by decide +kernel)⟩
theorem lw_p17 : lw_okq (⟨"BlueCoats", "chosenByNeed", "()I"⟩, 8) := ⟨⟨by decide +kernel, by decide +kernel⟩, List.mem_of_getElem? (i := 24) (by decide +kernel), List.mem_of_getElem? (i := 538) (by decide +kernel), List.mem_of_getElem? (i := 539) (by decide +kernel)⟩
theorem lw_p18 : lw_okq (⟨"BlueCoats", "handIn", "(I)V"⟩, 8) := ⟨⟨by decide +kernel, by decide +kernel⟩, List.mem_of_getElem? (i := 24) (by decide +kernel), List.mem_of_getElem? (i := 556) (by decide +kernel), List.mem_of_getElem? (i := 557) (by decide +kernel)⟩
theorem lw_p19 : lw_okq (⟨"BlueCoats$Dressing", "gather", "(LBlueCoats$Children;)V"⟩, 6) := ⟨⟨by decide +kernel, by decide +kernel⟩, List.mem_of_getElem? (i := 218) (by decide +kernel), List.mem_of_getElem? (i := 577) (by decide +kernel), List.mem_of_getElem? (i := 578) (by decide +kernel)⟩
theorem lw_p20 : lw_okq (⟨"BlueCoats$Dressing", "measure", "(LBlueCoats$Wardrobe;I)V"⟩, 6) := ⟨⟨by decide +kernel, by decide +kernel⟩, List.mem_of_getElem? (i := 218) (by decide +kernel), List.mem_of_getElem? (i := 581) (by decide +kernel), List.mem_of_getElem? (i := 582) (by decide +kernel)⟩
theorem lw_p21 : lw_okq (⟨"BlueCoats$Dressing", "chooseDressed", "()V"⟩, 6) := ⟨⟨by decide +kernel, by decide +kernel⟩, List.mem_of_getElem? (i := 218) (by decide +kernel), List.mem_of_getElem? (i := 589) (by decide +kernel), List.mem_of_getElem? (i := 590) (by decide +kernel)⟩
theorem lw_p22 : lw_okq (⟨"BlueCoats$Dressing", "greatestBut", "(I)I"⟩, 6) := ⟨⟨by decide +kernel, by decide +kernel⟩, List.mem_of_getElem? (i := 218) (by decide +kernel), List.mem_of_getElem? (i := 593) (by decide +kernel), List.mem_of_getElem? (i := 594) (by decide +kernel)⟩
theorem lw_p23 : lw_okq (⟨"BlueCoats$Dressing", "canDress", "(I)Z"⟩, 6) := ⟨⟨by decide +kernel, by decide +kernel⟩, List.mem_of_getElem? (i := 218) (by decide +kernel), List.mem_of_getElem? (i := 597) (by decide +kernel), List.mem_of_getElem? (i := 598) (by decide +kernel)⟩
theorem lw_p24 : lw_okq (⟨"BlueCoats$Dressing", "chooseCoats", "()V"⟩, 6) := ⟨⟨by decide +kernel, by decide +kernel⟩, List.mem_of_getElem? (i := 218) (by decide +kernel), List.mem_of_getElem? (i := 613) (by decide +kernel), List.mem_of_getElem? (i := 614) (by decide +kernel)⟩
theorem lw_p25 : lw_okq (⟨"BlueCoats$Dressing", "neededBy", "(IJ)J"⟩, 6) := ⟨⟨by decide +kernel, by decide +kernel⟩, List.mem_of_getElem? (i := 218) (by decide +kernel), List.mem_of_getElem? (i := 617) (by decide +kernel), List.mem_of_getElem? (i := 618) (by decide +kernel)⟩
theorem lw_p26 : lw_okq (⟨"BlueCoats", "handOut", "(II)V"⟩, 8) := ⟨⟨by decide +kernel, by decide +kernel⟩, List.mem_of_getElem? (i := 24) (by decide +kernel), List.mem_of_getElem? (i := 633) (by decide +kernel), List.mem_of_getElem? (i := 634) (by decide +kernel)⟩
theorem lw_p27 : lw_okq (⟨"BlueCoats$Chest", "planEnds", "()V"⟩, 9) := ⟨⟨by decide +kernel, by decide +kernel⟩, List.mem_of_getElem? (i := 247) (by decide +kernel), List.mem_of_getElem? (i := 657) (by decide +kernel), List.mem_of_getElem? (i := 658) (by decide +kernel)⟩
theorem lw_p28 : lw_okq (⟨"BlueCoats$Chest", "setLack", "([I)V"⟩, 9) := ⟨⟨by decide +kernel, by decide +kernel⟩, List.mem_of_getElem? (i := 247) (by decide +kernel), List.mem_of_getElem? (i := 661) (by decide +kernel), List.mem_of_getElem? (i := 662) (by decide +kernel)⟩
theorem lw_p29 : lw_okq (⟨"BlueCoats$Chest", "lessenLack", "(I)V"⟩, 9) := ⟨⟨by decide +kernel, by decide +kernel⟩, List.mem_of_getElem? (i := 247) (by decide +kernel), List.mem_of_getElem? (i := 665) (by decide +kernel), List.mem_of_getElem? (i := 666) (by decide +kernel)⟩
theorem lw_p30 : lw_okq (⟨"BlueCoats$Chest", "planLegacies", "()V"⟩, 9) := ⟨⟨by decide +kernel, by decide +kernel⟩, List.mem_of_getElem? (i := 247) (by decide +kernel), List.mem_of_getElem? (i := 669) (by decide +kernel), List.mem_of_getElem? (i := 670) (by decide +kernel)⟩
theorem lw_p31 : lw_okq (⟨"BlueCoats$Chest", "greatestLack", "()I"⟩, 9) := ⟨⟨by decide +kernel, by decide +kernel⟩, List.mem_of_getElem? (i := 247) (by decide +kernel), List.mem_of_getElem? (i := 673) (by decide +kernel), List.mem_of_getElem? (i := 674) (by decide +kernel)⟩
def lw_privs_2 : List (MethodName × Nat) := [(⟨"BlueCoats", "chosenByVote", "()I"⟩, 8), (⟨"BlueCoats", "chosenByNeed", "()I"⟩, 8), (⟨"BlueCoats", "handIn", "(I)V"⟩, 8), (⟨"BlueCoats$Dressing", "gather", "(LBlueCoats$Children;)V"⟩, 6), (⟨"BlueCoats$Dressing", "measure", "(LBlueCoats$Wardrobe;I)V"⟩, 6), (⟨"BlueCoats$Dressing", "chooseDressed", "()V"⟩, 6), (⟨"BlueCoats$Dressing", "greatestBut", "(I)I"⟩, 6), (⟨"BlueCoats$Dressing", "canDress", "(I)Z"⟩, 6), (⟨"BlueCoats$Dressing", "chooseCoats", "()V"⟩, 6), (⟨"BlueCoats$Dressing", "neededBy", "(IJ)J"⟩, 6), (⟨"BlueCoats", "handOut", "(II)V"⟩, 8), (⟨"BlueCoats$Chest", "planEnds", "()V"⟩, 9), (⟨"BlueCoats$Chest", "setLack", "([I)V"⟩, 9), (⟨"BlueCoats$Chest", "lessenLack", "(I)V"⟩, 9), (⟨"BlueCoats$Chest", "planLegacies", "()V"⟩, 9), (⟨"BlueCoats$Chest", "greatestLack", "()I"⟩, 9)]
theorem lw_r2 : ∀ q ∈ lw_privs_2, lw_okq q := List.forall_mem_cons.mpr ⟨lw_p16, List.forall_mem_cons.mpr ⟨lw_p17, List.forall_mem_cons.mpr ⟨lw_p18, List.forall_mem_cons.mpr ⟨lw_p19, List.forall_mem_cons.mpr ⟨lw_p20, List.forall_mem_cons.mpr ⟨lw_p21, List.forall_mem_cons.mpr ⟨lw_p22, List.forall_mem_cons.mpr ⟨lw_p23, List.forall_mem_cons.mpr ⟨lw_p24, List.forall_mem_cons.mpr ⟨lw_p25, List.forall_mem_cons.mpr ⟨lw_p26, List.forall_mem_cons.mpr ⟨lw_p27, List.forall_mem_cons.mpr ⟨lw_p28, List.forall_mem_cons.mpr ⟨lw_p29, List.forall_mem_cons.mpr ⟨lw_p30, List.forall_mem_cons.mpr ⟨lw_p31, fun _ h => absurd h List.not_mem_nil⟩⟩⟩⟩⟩⟩⟩⟩⟩⟩⟩⟩⟩⟩⟩⟩
theorem lw_p32 : lw_okq (⟨"java/lang/Throwable", "fillInStackTrace", "(I)Ljava/lang/Throwable;"⟩, 6) := ⟨⟨by decide +kernel, by decide +kernel⟩, List.mem_of_getElem? (i := 742) (by decide +kernel), List.mem_of_getElem? (i := 740) (by decide +kernel), List.mem_of_getElem? (i := 741) (by decide +kernel)⟩
theorem lw_p33 : lw_okq (⟨"BlueCoatsModel", "take", "()V"⟩, 52) := ⟨⟨by decide +kernel, by decide +kernel⟩, List.mem_of_getElem? (i := 787) (by decide +kernel), List.mem_of_getElem? (i := 963) (by decide +kernel), List.mem_of_getElem? (i := 964) (by decide +kernel)⟩
theorem lw_p34 : lw_okq (⟨"BlueCoatsModel", "isSmall", "(I)Z"⟩, 52) := ⟨⟨by decide +kernel, by decide +kernel⟩, List.mem_of_getElem? (i := 787) (by decide +kernel), List.mem_of_getElem? (i := 967) (by decide +kernel), List.mem_of_getElem? (i := 968) (by decide +kernel)⟩
theorem lw_p35 : lw_okq (⟨"BlueCoatsModel", "wordAt", "(II)I"⟩, 52) := ⟨⟨by decide +kernel, by decide +kernel⟩, List.mem_of_getElem? (i := 787) (by decide +kernel), List.mem_of_getElem? (i := 971) (by decide +kernel), List.mem_of_getElem? (i := 972) (by decide +kernel)⟩
theorem lw_p36 : lw_okq (⟨"BlueCoatsModel", "isDigit", "(I)Z"⟩, 52) := ⟨⟨by decide +kernel, by decide +kernel⟩, List.mem_of_getElem? (i := 787) (by decide +kernel), List.mem_of_getElem? (i := 975) (by decide +kernel), List.mem_of_getElem? (i := 976) (by decide +kernel)⟩
theorem lw_p37 : lw_okq (⟨"BlueCoatsModel", "line", "()Z"⟩, 52) := ⟨⟨by decide +kernel, by decide +kernel⟩, List.mem_of_getElem? (i := 787) (by decide +kernel), List.mem_of_getElem? (i := 980) (by decide +kernel), List.mem_of_getElem? (i := 981) (by decide +kernel)⟩
theorem lw_p38 : lw_okq (⟨"BlueCoatsModel", "wrong", "(II)Z"⟩, 52) := ⟨⟨by decide +kernel, by decide +kernel⟩, List.mem_of_getElem? (i := 787) (by decide +kernel), List.mem_of_getElem? (i := 984) (by decide +kernel), List.mem_of_getElem? (i := 985) (by decide +kernel)⟩
theorem lw_p39 : lw_okq (⟨"BlueCoatsModel", "cycleLine", "()Z"⟩, 52) := ⟨⟨by decide +kernel, by decide +kernel⟩, List.mem_of_getElem? (i := 787) (by decide +kernel), List.mem_of_getElem? (i := 988) (by decide +kernel), List.mem_of_getElem? (i := 989) (by decide +kernel)⟩
theorem lw_p40 : lw_okq (⟨"BlueCoatsModel", "number", "(II)Z"⟩, 52) := ⟨⟨by decide +kernel, by decide +kernel⟩, List.mem_of_getElem? (i := 787) (by decide +kernel), List.mem_of_getElem? (i := 992) (by decide +kernel), List.mem_of_getElem? (i := 993) (by decide +kernel)⟩
theorem lw_p41 : lw_okq (⟨"BlueCoatsModel", "isChild", "(I)Z"⟩, 52) := ⟨⟨by decide +kernel, by decide +kernel⟩, List.mem_of_getElem? (i := 787) (by decide +kernel), List.mem_of_getElem? (i := 1012) (by decide +kernel), List.mem_of_getElem? (i := 1013) (by decide +kernel)⟩
theorem lw_p42 : lw_okq (⟨"BlueCoatsModel", "inMany", "()I"⟩, 52) := ⟨⟨by decide +kernel, by decide +kernel⟩, List.mem_of_getElem? (i := 787) (by decide +kernel), List.mem_of_getElem? (i := 1024) (by decide +kernel), List.mem_of_getElem? (i := 1025) (by decide +kernel)⟩
theorem lw_p43 : lw_okq (⟨"BlueCoatsModel", "comes", "()I"⟩, 52) := ⟨⟨by decide +kernel, by decide +kernel⟩, List.mem_of_getElem? (i := 787) (by decide +kernel), List.mem_of_getElem? (i := 1028) (by decide +kernel), List.mem_of_getElem? (i := 1029) (by decide +kernel)⟩
theorem lw_p44 : lw_okq (⟨"BlueCoatsModel", "mayCome", "(I)Z"⟩, 52) := ⟨⟨by decide +kernel, by decide +kernel⟩, List.mem_of_getElem? (i := 787) (by decide +kernel), List.mem_of_getElem? (i := 1032) (by decide +kernel), List.mem_of_getElem? (i := 1033) (by decide +kernel)⟩
theorem lw_p45 : lw_okq (⟨"BlueCoatsModel", "votes", "(I)I"⟩, 52) := ⟨⟨by decide +kernel, by decide +kernel⟩, List.mem_of_getElem? (i := 787) (by decide +kernel), List.mem_of_getElem? (i := 1036) (by decide +kernel), List.mem_of_getElem? (i := 1037) (by decide +kernel)⟩
theorem lw_p46 : lw_okq (⟨"BlueCoatsModel", "isAhead", "(IIZ)Z"⟩, 52) := ⟨⟨by decide +kernel, by decide +kernel⟩, List.mem_of_getElem? (i := 787) (by decide +kernel), List.mem_of_getElem? (i := 1040) (by decide +kernel), List.mem_of_getElem? (i := 1041) (by decide +kernel)⟩
theorem lw_p47 : lw_okq (⟨"BlueCoatsModel", "sets", "(I)V"⟩, 52) := ⟨⟨by decide +kernel, by decide +kernel⟩, List.mem_of_getElem? (i := 787) (by decide +kernel), List.mem_of_getElem? (i := 1052) (by decide +kernel), List.mem_of_getElem? (i := 1053) (by decide +kernel)⟩
def lw_privs_3 : List (MethodName × Nat) := [(⟨"java/lang/Throwable", "fillInStackTrace", "(I)Ljava/lang/Throwable;"⟩, 6), (⟨"BlueCoatsModel", "take", "()V"⟩, 52), (⟨"BlueCoatsModel", "isSmall", "(I)Z"⟩, 52), (⟨"BlueCoatsModel", "wordAt", "(II)I"⟩, 52), (⟨"BlueCoatsModel", "isDigit", "(I)Z"⟩, 52), (⟨"BlueCoatsModel", "line", "()Z"⟩, 52), (⟨"BlueCoatsModel", "wrong", "(II)Z"⟩, 52), (⟨"BlueCoatsModel", "cycleLine", "()Z"⟩, 52), (⟨"BlueCoatsModel", "number", "(II)Z"⟩, 52), (⟨"BlueCoatsModel", "isChild", "(I)Z"⟩, 52), (⟨"BlueCoatsModel", "inMany", "()I"⟩, 52), (⟨"BlueCoatsModel", "comes", "()I"⟩, 52), (⟨"BlueCoatsModel", "mayCome", "(I)Z"⟩, 52), (⟨"BlueCoatsModel", "votes", "(I)I"⟩, 52), (⟨"BlueCoatsModel", "isAhead", "(IIZ)Z"⟩, 52), (⟨"BlueCoatsModel", "sets", "(I)V"⟩, 52)]
theorem lw_r3 : ∀ q ∈ lw_privs_3, lw_okq q := List.forall_mem_cons.mpr ⟨lw_p32, List.forall_mem_cons.mpr ⟨lw_p33, List.forall_mem_cons.mpr ⟨lw_p34, List.forall_mem_cons.mpr ⟨lw_p35, List.forall_mem_cons.mpr ⟨lw_p36, List.forall_mem_cons.mpr ⟨lw_p37, List.forall_mem_cons.mpr ⟨lw_p38, List.forall_mem_cons.mpr ⟨lw_p39, List.forall_mem_cons.mpr ⟨lw_p40, List.forall_mem_cons.mpr ⟨lw_p41, List.forall_mem_cons.mpr ⟨lw_p42, List.forall_mem_cons.mpr ⟨lw_p43, List.forall_mem_cons.mpr ⟨lw_p44, List.forall_mem_cons.mpr ⟨lw_p45, List.forall_mem_cons.mpr ⟨lw_p46, List.forall_mem_cons.mpr ⟨lw_p47, fun _ h => absurd h List.not_mem_nil⟩⟩⟩⟩⟩⟩⟩⟩⟩⟩⟩⟩⟩⟩⟩⟩
theorem lw_p48 : lw_okq (⟨"BlueCoatsModel", "suits", "(II)Z"⟩, 52) := ⟨⟨by decide +kernel, by decide +kernel⟩, List.mem_of_getElem? (i := 787) (by decide +kernel), List.mem_of_getElem? (i := 1056) (by decide +kernel), List.mem_of_getElem? (i := 1057) (by decide +kernel)⟩
theorem lw_p49 : lw_okq (⟨"BlueCoatsModel", "clothOf", "(I)I"⟩, 52) := ⟨⟨by decide +kernel, by decide +kernel⟩, List.mem_of_getElem? (i := 787) (by decide +kernel), List.mem_of_getElem? (i := 1060) (by decide +kernel), List.mem_of_getElem? (i := 1061) (by decide +kernel)⟩
theorem lw_p50 : lw_okq (⟨"BlueCoatsModel", "isFirst", "(II)Z"⟩, 52) := ⟨⟨by decide +kernel, by decide +kernel⟩, List.mem_of_getElem? (i := 787) (by decide +kernel), List.mem_of_getElem? (i := 1064) (by decide +kernel), List.mem_of_getElem? (i := 1065) (by decide +kernel)⟩
theorem lw_p51 : lw_okq (⟨"BlueCoatsModel", "deal", "()V"⟩, 52) := ⟨⟨by decide +kernel, by decide +kernel⟩, List.mem_of_getElem? (i := 787) (by decide +kernel), List.mem_of_getElem? (i := 1080) (by decide +kernel), List.mem_of_getElem? (i := 1081) (by decide +kernel)⟩
theorem lw_p52 : lw_okq (⟨"BlueCoatsModel", "coinsFor", "(I)I"⟩, 52) := ⟨⟨by decide +kernel, by decide +kernel⟩, List.mem_of_getElem? (i := 787) (by decide +kernel), List.mem_of_getElem? (i := 1084) (by decide +kernel), List.mem_of_getElem? (i := 1085) (by decide +kernel)⟩
theorem lw_p53 : lw_okq (⟨"BlueCoatsModel", "shortage", "()I"⟩, 52) := ⟨⟨by decide +kernel, by decide +kernel⟩, List.mem_of_getElem? (i := 787) (by decide +kernel), List.mem_of_getElem? (i := 1088) (by decide +kernel), List.mem_of_getElem? (i := 1089) (by decide +kernel)⟩
theorem lw_p54 : lw_okq (⟨"BlueCoatsModel", "needOf", "(I)I"⟩, 52) := ⟨⟨by decide +kernel, by decide +kernel⟩, List.mem_of_getElem? (i := 787) (by decide +kernel), List.mem_of_getElem? (i := 1092) (by decide +kernel), List.mem_of_getElem? (i := 1093) (by decide +kernel)⟩
theorem lw_p55 : lw_okq (⟨"BlueCoatsModel", "fails", "(I)I"⟩, 52) := ⟨⟨by decide +kernel, by decide +kernel⟩, List.mem_of_getElem? (i := 787) (by decide +kernel), List.mem_of_getElem? (i := 1104) (by decide +kernel), List.mem_of_getElem? (i := 1105) (by decide +kernel)⟩
theorem lw_p56 : lw_okq (⟨"BlueCoatsModel", "coatOf", "(I)I"⟩, 52) := ⟨⟨by decide +kernel, by decide +kernel⟩, List.mem_of_getElem? (i := 787) (by decide +kernel), List.mem_of_getElem? (i := 1108) (by decide +kernel), List.mem_of_getElem? (i := 1109) (by decide +kernel)⟩
def lw_privs_4 : List (MethodName × Nat) := [(⟨"BlueCoatsModel", "suits", "(II)Z"⟩, 52), (⟨"BlueCoatsModel", "clothOf", "(I)I"⟩, 52), (⟨"BlueCoatsModel", "isFirst", "(II)Z"⟩, 52), (⟨"BlueCoatsModel", "deal", "()V"⟩, 52), (⟨"BlueCoatsModel", "coinsFor", "(I)I"⟩, 52), (⟨"BlueCoatsModel", "shortage", "()I"⟩, 52), (⟨"BlueCoatsModel", "needOf", "(I)I"⟩, 52), (⟨"BlueCoatsModel", "fails", "(I)I"⟩, 52), (⟨"BlueCoatsModel", "coatOf", "(I)I"⟩, 52)]
theorem lw_r4 : ∀ q ∈ lw_privs_4, lw_okq q := List.forall_mem_cons.mpr ⟨lw_p48, List.forall_mem_cons.mpr ⟨lw_p49, List.forall_mem_cons.mpr ⟨lw_p50, List.forall_mem_cons.mpr ⟨lw_p51, List.forall_mem_cons.mpr ⟨lw_p52, List.forall_mem_cons.mpr ⟨lw_p53, List.forall_mem_cons.mpr ⟨lw_p54, List.forall_mem_cons.mpr ⟨lw_p55, List.forall_mem_cons.mpr ⟨lw_p56, fun _ h => absurd h List.not_mem_nil⟩⟩⟩⟩⟩⟩⟩⟩⟩
def lw_privs : List (MethodName × Nat) := lw_privs_1 ++ (lw_privs_2 ++ (lw_privs_3 ++ (lw_privs_4)))
def lw_tbl : List Cond := k2_sels lw_privs ++ tables_1
theorem lw_privs_ok : ∀ q ∈ lw_privs, lw_okq q := by
  show ∀ q ∈ lw_privs_1 ++ (lw_privs_2 ++ (lw_privs_3 ++ (lw_privs_4))), lw_okq q
  exact List.forall_mem_append.mpr ⟨lw_r1, List.forall_mem_append.mpr ⟨lw_r2, List.forall_mem_append.mpr ⟨lw_r3, lw_r4⟩⟩⟩
end
section
/-! ===== BEGIN words of one list among another's, by their places ===== -/
theorem goodIn_r {big : List Cond} (ws : List Cond) (ps : List Nat) (hp : ws = ps.filterMap (fun i => big[i]?)) (h : ws.all goodWord = true) : GoodIn big ws := by
  intro w hw
  have h1 := List.all_eq_true.mp h w hw
  rw [hp] at hw
  obtain ⟨i, -, hi⟩ := List.mem_filterMap.mp hw
  have hm : w ∈ big := by first | exact List.mem_of_getElem? hi | exact List.getElem?_mem hi
  exact ⟨hm, good_of_word h1⟩
theorem goodIn_app {big a b : List Cond} (ha : GoodIn big a) (hb : GoodIn big b) : GoodIn big (a ++ b) := fun w h => (List.mem_append.mp h).elim (ha w) (hb w)
theorem goodIn_ca {big a b : List Cond} {c : Cond} (ha : GoodIn big (c :: a)) (hb : GoodIn big b) : GoodIn big (c :: (a ++ b)) := fun w h => (List.mem_cons.mp h).elim (fun e => ha w (List.mem_cons.mpr (Or.inl e))) (fun h => (List.mem_append.mp h).elim (fun h => ha w (List.mem_cons.mpr (Or.inr h))) (hb w))
theorem goodIn_sub {big ws : List Cond} (hm : ∀ w ∈ ws, w ∈ big) (h : ws.all goodWord = true) : GoodIn big ws := fun w hw => ⟨hm w hw, good_of_word (List.all_eq_true.mp h w hw)⟩
/-! ===== END ===== -/

/-! ===== BEGIN exceptions that leave a method, and their catching by the caller (launches without stack traces) ===== -/
section VXA
/-! The laws vx_back, vx_callV, vx_callS, vx_callSW, vx_throw0, vx_throwS follow proofs of the library, with one case more: JvmDerived/Free/Laws.lean (Back.of_free), Shelf42/LK1.lean (callV, callS), Shelf/KitTraced.lean (throwNew0V, throwNewS). -/
/-- where a method has thrown q: the class by its name, the cell, what was written, the world -/
def vx_T (XC : String → State → State → Prop) (st : State) (q : Addr) (t : State) (mc ms : Nat) (free : Addr → Prop) : Prop :=
  ∃ (E : String) (ce : Cell) (L : List Loc), XC E st t ∧ t.heap[q]? = some ce ∧ ce.vm = .none ∧ st.vm.findClass E = some ce.cls ∧ st.WarmedH t.vm ∧ st.sameButNew ({ t with vm := st.vm } : State) L mc ms ∧ ∀ z ∈ L, free z.base
def vx_Q (Qc : Array Value → State → Outcome → State → Prop) (XC : String → State → State → Prop) (mc ms : Nat) (free : Addr → Prop) : Array Value → State → Outcome → State → Prop := fun a st o t =>
  (Qc a st o t ∧ ∃ L, FrameEnd st o t L mc ms ∧ ∀ q ∈ L, free q.base) ∨ ∃ q, o = .threw q ∧ vx_T XC st q t mc ms free
/-- a callee that returns or throws -/
def vx_Met (l : Launch) (y : MethodName) (ws : List Cond) (rm : Room) (Pc : Array Value → State → Prop) (Qc : Array Value → State → Outcome → State → Prop) (XC : String → State → State → Prop) (mc ms : Nat) (free : Addr → Prop) : Prop :=
  MetFree l y (headSpec ws rm) Pc (fun _ _ _ _ _ => True) (vx_Q Qc XC mc ms free)
def vx_Post (XC : String → State → State → Prop) (mc ms : Nat) (free : Addr → Prop) : Pt → Array Value → Addr → Pt → Prop := fun A a q B =>
  ∃ (g : JFrame) (mk : MethodId) (t : State) (L : List Loc) (E : String) (ce : Cell), B.U.heap = t.heap ∧ B.U.vm = t.vm ∧ XC E (A.U.calling g mk a) t ∧ t.heap[q]? = some ce ∧ ce.vm = .none ∧ A.U.vm.findClass E = some ce.cls ∧ B.locs = A.locs ++ L ∧ (∀ z ∈ L, free z.base) ∧ B.cells = A.cells + mc ∧ B.slots = A.slots + ms
def vx_Back (l : Launch) (R : Room) (p : Program) (e : Env) (below : List Frame) (s : State) (sargs : Array Value) (y : MethodName) (len W9 : Nat)
    (Pre : Pt → Array Value → Prop) (Post : Pt → Array Value → Option Value → Pt → Prop) (PostX : Pt → Array Value → Addr → Pt → Prop) : Prop :=
  ∀ (m : MethodId) (meth : Method) (c : Code) (A : Pt) (g : JFrame) (ig : Instr) (mk : MethodId) (a : Array Value),
    Stand p l e R s m sargs below meth c A.U A.locs A.cells A.slots → g.method = m → g.locals.size = c.maxLocals → decode c.code g.pc = .ok (ig, len) →
    2 * g.monitorRoom + (g.stack.map fun v => v.category).sum ≤ W9 → A.U.methodNamed? y = some mk → Pre A a →
    (∃ (v : Option Value) (B : Pt), Stand p l e R s m sargs below meth c B.U B.locs B.cells B.slots ∧ Post A a v B ∧
      Steps p.tables e below (doInvoke e (A.U.setTop g) [] mk a).1 (B.U.setTop { g with pc := g.pc + len, stack := v.toList ++ g.stack })) ∨
    (∃ (q : Addr) (B : Pt), Stand p l e R s m sargs below meth c B.U B.locs B.cells B.slots ∧ PostX A a q B ∧
      Steps p.tables e below (doInvoke e (A.U.setTop g) [] mk a).1 ((B.U.setTop g).pushFrame (.throwing q)))
section Payer
variable {l : Launch} {R : Room} {p : Program} {e : Env} {below : List Frame} {s : State} {sargs : Array Value} {y : MethodName} {len W9 : Nat}
theorem vx_back {ws : List Cond} {rm : Room} {Pc : Array Value → State → Prop} {Qc : Array Value → State → Outcome → State → Prop} {XC : String → State → State → Prop} {mc ms : Nat} {free : Addr → Prop} {bytes : ByteArray} {maxL : Nat} {ret : Option FieldType}
    (hM : vx_Met l y ws rm Pc Qc XC mc ms free) (hblind : FrameBlind Pc) (hrc : rm.cells = mc) (hrs : rm.slots = ms)
    (hframes : rm.frames + 1 ≤ R.frames) (hlocals : W9 + (maxL + 11) + rm.locals ≤ R.locals)
    (hws : ∀ w ∈ ws, ∀ a' U, s.WarmedH U.vm → w.before a' U = true) (hcode : Cond.code y bytes maxL ret ∈ ws) (hinit : ∀ a' U, s.WarmedH U.vm → (Cond.initialized y.cls).before a' U = true) :
    vx_Back l R p e below s sargs y len W9 (PreOf R mc ms Pc) (PostOf Qc mc ms free) (vx_Post XC mc ms free) := by
  intro m meth c A g ig mk a X hg hsize hdg hW hn hp
  have h1 : (headSpec ws rm).pre.before a A.U = true := atoms_intro fun w hw => hws w hw _ _ X.warmed
  have h2 : (Cond.code y bytes maxL ret).before a A.U = true := hws _ hcode _ _ X.warmed
  have h3 : (Cond.initialized y.cls).before a A.U = true := hinit _ _ X.warmed
  have h4 : A.cells + (headSpec ws rm).room.cells ≤ R.cells := by rw [show (headSpec ws rm).room.cells = mc from hrc]; exact hp.1
  have h5 : A.slots + (headSpec ws rm).room.slots ≤ R.slots := by rw [show (headSpec ws rm).room.slots = ms from hrs]; exact hp.2.1
  have hPc : Pc a (A.U.calling g mk a) := hblind _ _ _ _ hp.2.2
  obtain ⟨U, Ls, c0, s0⟩ := A
  dsimp only [Pt.U, Pt.locs, Pt.cells, Pt.slots] at h1 h2 h3 h4 h5 X hn hPc ⊢
  obtain ⟨methY, cY, hmY, hcY, -, hlY, -, -, -, -⟩ := Cond.code_spec hn h2
  obtain ⟨kY, hkY, -⟩ := className_of_methodNamed hn
  have hinitY : kY.init = .initialized := Cond.initialized_spec (findClass_of_methodNamed hn) hkY h3
  have h : At U g.method c below := by rw [hg]; exact X.here
  have hlocals9 : W9 + (maxL + 11) + (headSpec ws rm).room.locals ≤ R.locals := hlocals
  have happ : (headSpec ws rm).appliesLoose y e.platform (U.calling g mk a) = true :=
    Spec.appliesLoose_calling (g := g) h hdg hn hkY hinitY
      (X.room_calling (g := g) (R' := (headSpec ws rm).room) hsize hmY hcY hframes (by rw [hlY]; omega) h4 h5) h1
  obtain ⟨mid, hmid⟩ := h.above
  have hfr : (U.setTop g).frames = (.java g :: mid) ++ below := by rw [State.frames_setTop' g h.top, hmid]; rfl
  obtain ⟨o, s₂, hsteps, -, hend, hq⟩ := Steps.callFree hM p X.admits X.cas X.clock (acts := []) hfr happ hPc trivial
  have hq' : vx_Q Qc XC mc ms free a (U.calling g mk a) o s₂ := hq
  rw [State.frames_setTop' g h.top] at hend
  obtain ⟨g₀, hg0⟩ := Option.isSome_iff_exists.mp h.top
  obtain ⟨r, hr⟩ := State.topJava?_eq_some.mp hg0
  have hr' : (({ U with heap := s₂.heap, slotsUsed := s₂.slotsUsed } : State).setVm s₂.vm).frames = .java g₀ :: r := hr
  rcases hq' with ⟨hqc, L, hfe, hL⟩ | ⟨q, rfl, E, ce, L, hx, hce, hcv, hcl, hW₂, hsm, hL⟩
  · obtain ⟨⟨v, rfl⟩, hW₂, e2, q2, q3, q4, q5, q6⟩ := id hfe
    have e3 : s₂ = ({ (U.calling g mk a).setFrames s₂.frames with heap := s₂.heap, slotsUsed := s₂.slotsUsed } : State).setVm s₂.vm := by
      have : s₂ = ({ s₂ with vm := (U.calling g mk a).vm } : State).setVm s₂.vm := rfl
      rw [e2] at this
      exact this
    obtain ⟨c₂, i₂, len₂, hc₂, hd₂, hf₂⟩ := hend
    have hW' : U.WarmedH s₂.vm := hW₂
    have hcc : c₂ = c := by
      have h1 : s₂.code? g.method = U.code? g.method := by
        rw [State.code?_eq, State.code?_eq, hW'.alike.method?]
      exact Option.some.inj (hc₂.symm.trans (h1.trans h.code))
    subst hcc
    have hlen : len₂ = len := by rw [hdg] at hd₂; cases hd₂; rfl
    subst hlen
    have hs₂ : s₂ = (({ U with heap := s₂.heap, slotsUsed := s₂.slotsUsed } : State).setVm s₂.vm).setTop { g with pc := g.pc + len₂, stack := v.toList ++ g.stack } := by
      refine e3.trans ?_
      rw [hf₂, State.calling_eq h.top, State.setFrames_setFrames, State.setTop_of_frames _ hr', hr]
      rfl
    have hsame : U.sameButNew ({ U with heap := s₂.heap, slotsUsed := s₂.slotsUsed } : State) L mc ms := by
      refine ⟨?_, q2, q3, q4, q5, q6⟩
      obtain ⟨t, ht, -⟩ := State.frames_cons hr
      show ({ U with heap := s₂.heap, slotsUsed := s₂.slotsUsed } : State) = { U.setFrames U.frames with heap := s₂.heap, slotsUsed := s₂.slotsUsed }
      rw [State.setFrames_self ht]
    subst hg
    refine Or.inl ⟨v, ⟨(({ U with heap := s₂.heap, slotsUsed := s₂.slotsUsed } : State).setVm s₂.vm), Ls ++ L, c0 + mc, s0 + ms⟩,
      ⟨X.admits, X.cas, X.clock, X.frames, X.room, X.hears, X.method, X.code, (X.here.setHeapUsed s₂.heap s₂.slotsUsed).setVm hW'.alike, X.tail, State.WarmedH.trans X.warmed hW', X.limits, X.bytes, X.same.trans (hsame.setVm s.vm)⟩,
      ⟨g, mk, s₂, L, rfl, rfl, hqc, rfl, hL, rfl, rfl⟩, ?_⟩
    show Steps p.tables e below _ ((({ U with heap := s₂.heap, slotsUsed := s₂.slotsUsed } : State).setVm s₂.vm).setTop { g with pc := g.pc + len₂, stack := v.toList ++ g.stack })
    rw [← hs₂]
    exact hsteps
  · obtain ⟨e2, q2, q3, q4, q5, q6⟩ := id hsm
    have e3 : s₂ = ({ (U.calling g mk a).setFrames s₂.frames with heap := s₂.heap, slotsUsed := s₂.slotsUsed } : State).setVm s₂.vm := by
      have : s₂ = ({ s₂ with vm := (U.calling g mk a).vm } : State).setVm s₂.vm := rfl
      rw [e2] at this
      exact this
    have hf₂ : s₂.frames = .throwing q :: .java g :: U.frames.tail := hend
    have hW' : U.WarmedH s₂.vm := hW₂
    have hs₂ : s₂ = ((({ U with heap := s₂.heap, slotsUsed := s₂.slotsUsed } : State).setVm s₂.vm).setTop g).pushFrame (.throwing q) := by
      refine e3.trans ?_
      rw [hf₂, State.calling_eq h.top, State.setFrames_setFrames, State.pushFrame, State.frames_setTop _ hr', State.setTop_of_frames _ hr', State.setFrames_setFrames, hr]
      rfl
    have hsame : U.sameButNew ({ U with heap := s₂.heap, slotsUsed := s₂.slotsUsed } : State) L mc ms := by
      refine ⟨?_, q2, q3, q4, q5, q6⟩
      obtain ⟨t, ht, -⟩ := State.frames_cons hr
      show ({ U with heap := s₂.heap, slotsUsed := s₂.slotsUsed } : State) = { U.setFrames U.frames with heap := s₂.heap, slotsUsed := s₂.slotsUsed }
      rw [State.setFrames_self ht]
    subst hg
    refine Or.inr ⟨q, ⟨(({ U with heap := s₂.heap, slotsUsed := s₂.slotsUsed } : State).setVm s₂.vm), Ls ++ L, c0 + mc, s0 + ms⟩,
      ⟨X.admits, X.cas, X.clock, X.frames, X.room, X.hears, X.method, X.code, (X.here.setHeapUsed s₂.heap s₂.slotsUsed).setVm hW'.alike, X.tail, State.WarmedH.trans X.warmed hW', X.limits, X.bytes, X.same.trans (hsame.setVm s.vm)⟩,
      ⟨g, mk, s₂, L, E, ce, rfl, rfl, hx, hce, hcv, hcl, rfl, hL, rfl, rfl⟩, ?_⟩
    show Steps p.tables e below _ (((({ U with heap := s₂.heap, slotsUsed := s₂.slotsUsed } : State).setVm s₂.vm).setTop g).pushFrame (.throwing q))
    rw [← hs₂]
    exact hsteps
end Payer
section Calls
variable {p : Program} {l : Launch} {e : Env} {R : Room} {s : State} {m : MethodId} {args : Array Value} {below : List Frame} {meth : Method} {c : Code} {T : State} {locs : List Loc} {cells slots : Nat}
theorem vx_callV (X : Stand p l e R s m args below meth c T locs cells slots) (hexec : p.tables.exec = Jvm.exec) {own C : String} {index : Nat} {y : MethodName} {bytes : ByteArray} {maxL : Nat} {ret : Option FieldType}
    (hown : s.vm.findClass own = some m.cls) (hlink : (Cond.methodLink own index y).before args s = true) (hinst : (Cond.instanceMethod y).before args s = true) (hsel : (Cond.selects C y y).before args s = true)
    (hcode : (Cond.code y bytes maxL ret).before args s = true) (hy : y.cls ≠ "java/lang/invoke/MethodHandle" ∧ y.cls ≠ "java/lang/invoke/VarHandle")
    {W9 : Nat} {Pre : Pt → Array Value → Prop} {Post : Pt → Array Value → Option Value → Pt → Prop} {PostX : Pt → Array Value → Addr → Pt → Prop} (hK : vx_Back l R p e below s args y 3 W9 Pre Post PostX)
    {b : Addr} {cellB : Cell} (hcell : T.heap[b]? = some cellB) (hobj : cellB.vm.isStatics = false) (hcls : s.vm.findClass C = some cellB.cls)
    {g : JFrame} (hg : g.method = m) (hsize : g.locals.size = c.maxLocals) {argsL rest : List Value} (hlen : ∀ sig, parseMethodDescriptor y.desc = some sig → argsL.length = sig.parameters.length)
    (hstack : g.stack = argsL.reverse ++ .ref b :: rest) (hW : 2 * g.monitorRoom + (rest.map fun v => v.category).sum ≤ W9) (hdg : decode c.code g.pc = .ok (.invokevirtual index, 3))
    (hpre : ∀ vm₁, s.WarmedH vm₁ → Pre ⟨T.setVm vm₁, locs, cells, slots⟩ (Value.ref b :: argsL).toArray) :
    (∃ (v : Option Value) (vm₁ : Vm) (B : Pt), s.WarmedH vm₁ ∧ Stand p l e R s m args below meth c B.U B.locs B.cells B.slots ∧ Post ⟨T.setVm vm₁, locs, cells, slots⟩ (Value.ref b :: argsL).toArray v B ∧
      ∀ target, Steps p.tables e below (B.U.setTop { g with pc := g.pc + 3, stack := v.toList ++ rest }) target → Steps p.tables e below (T.setTop g) target) ∨
    (∃ (q : Addr) (vm₁ : Vm) (B : Pt), s.WarmedH vm₁ ∧ Stand p l e R s m args below meth c B.U B.locs B.cells B.slots ∧ PostX ⟨T.setVm vm₁, locs, cells, slots⟩ (Value.ref b :: argsL).toArray q B ∧
      Steps p.tables e below (T.setTop g) ((B.U.setTop { g with stack := rest }).pushFrame (.throwing q))) := by
  obtain ⟨mk, methM, hnamed, hmethM, hstM, habM⟩ := Cond.instanceMethod_spec hinst
  obtain ⟨methM', cM, hmethM', -, -, -, -, -, -, hsigM⟩ := Cond.code_spec hnamed hcode
  cases hmethM.symm.trans hmethM'
  obtain ⟨c2, r2, m2, q1, q2, q3, q4, kP, hkP, hkPi⟩ := Cond.selects_spec hsel
  cases hcls.symm.trans q1
  cases (State.methodFound?_of_named hnamed hy).symm.trans q2
  cases hnamed.symm.trans q3
  have hselP : selectMethod e.platform s.vm cellB.cls mk = .method mk := by rw [Launch.admits_selectMethod X.admits]; exact q4
  obtain ⟨vm₁, X₁, hstep₁⟩ := X.invokevirtual hexec hown hlink hnamed hmethM hstM hkP hkPi hy (a := b) (cell := cellB) hcell
    (fun z h => by rw [h] at hobj; cases hobj) hselP hmethM habM hkP hkPi (g := g) hg (argsL := argsL) (rest := rest) (hlen _ hsigM) hstack hdg
  rcases hK m meth c ⟨T.setVm vm₁, locs, cells, slots⟩ { g with stack := rest } (.invokevirtual index) mk (Value.ref b :: argsL).toArray X₁ hg hsize hdg hW (X₁.named hnamed) (hpre vm₁ X₁.warmed) with ⟨v, B, X', hpost, hsteps⟩ | ⟨q, B, X', hpost, hsteps⟩
  · exact Or.inl ⟨v, vm₁, B, X₁.warmed, X', hpost, fun target h => hstep₁ _ fun acts => by rw [doInvoke_state]; exact hsteps.trans h⟩
  · exact Or.inr ⟨q, vm₁, B, X₁.warmed, X', hpost, hstep₁ _ fun acts => by rw [doInvoke_state]; exact hsteps⟩
theorem vx_callS (X : Stand p l e R s m args below meth c T locs cells slots) (hexec : p.tables.exec = Jvm.exec) {own : String} {index : Nat} {y : MethodName} {bytes : ByteArray} {maxL : Nat} {ret : Option FieldType}
    (hown : s.vm.findClass own = some m.cls) (hlink : (Cond.methodLink own index y).before args s = true) (hstat : (Cond.static y).before args s = true) (hinit : (Cond.initialized y.cls).before args s = true)
    (hcode : (Cond.code y bytes maxL ret).before args s = true) (hy : y.cls ≠ "java/lang/invoke/MethodHandle" ∧ y.cls ≠ "java/lang/invoke/VarHandle")
    {W9 : Nat} {Pre : Pt → Array Value → Prop} {Post : Pt → Array Value → Option Value → Pt → Prop} {PostX : Pt → Array Value → Addr → Pt → Prop} (hK : vx_Back l R p e below s args y 3 W9 Pre Post PostX)
    {g : JFrame} (hg : g.method = m) (hsize : g.locals.size = c.maxLocals) {argsL rest : List Value} (hlen : ∀ sig, parseMethodDescriptor y.desc = some sig → argsL.length = sig.parameters.length)
    (hstack : g.stack = argsL.reverse ++ rest) (hW : 2 * g.monitorRoom + (rest.map fun v => v.category).sum ≤ W9) (hdg : decode c.code g.pc = .ok (.invokestatic index, 3))
    (hpre : ∀ vm₁, s.WarmedH vm₁ → Pre ⟨T.setVm vm₁, locs, cells, slots⟩ argsL.toArray) :
    (∃ (v : Option Value) (vm₁ : Vm) (B : Pt), s.WarmedH vm₁ ∧ Stand p l e R s m args below meth c B.U B.locs B.cells B.slots ∧ Post ⟨T.setVm vm₁, locs, cells, slots⟩ argsL.toArray v B ∧
      ∀ target, Steps p.tables e below (B.U.setTop { g with pc := g.pc + 3, stack := v.toList ++ rest }) target → Steps p.tables e below (T.setTop g) target) ∨
    (∃ (q : Addr) (vm₁ : Vm) (B : Pt), s.WarmedH vm₁ ∧ Stand p l e R s m args below meth c B.U B.locs B.cells B.slots ∧ PostX ⟨T.setVm vm₁, locs, cells, slots⟩ argsL.toArray q B ∧
      Steps p.tables e below (T.setTop g) ((B.U.setTop { g with stack := rest }).pushFrame (.throwing q))) := by
  obtain ⟨mk, hnamed⟩ := Cond.code_named hcode
  obtain ⟨methM, cM, hmethM, -, -, -, -, -, -, hsigM⟩ := Cond.code_spec hnamed hcode
  have hstatic : methM.isStatic = true := Cond.static_spec hnamed hmethM hstat
  obtain ⟨kP, hkP, -⟩ := className_of_methodNamed hnamed
  have hinitP : kP.init = .initialized := Cond.initialized_spec (findClass_of_methodNamed hnamed) hkP hinit
  obtain ⟨vm₁, X₁, hstep₁⟩ := X.invokestatic hexec hown hlink hnamed hmethM hstatic hkP hinitP hy (g := g) hg (argsL := argsL) (rest := rest) (hlen _ hsigM) hstack hdg
  rcases hK m meth c ⟨T.setVm vm₁, locs, cells, slots⟩ { g with stack := rest } (.invokestatic index) mk argsL.toArray X₁ hg hsize hdg hW (X₁.named hnamed) (hpre vm₁ X₁.warmed) with ⟨v, B, X', hpost, hsteps⟩ | ⟨q, B, X', hpost, hsteps⟩
  · exact Or.inl ⟨v, vm₁, B, X₁.warmed, X', hpost, fun target h => hstep₁ _ fun acts => by rw [doInvoke_state]; exact hsteps.trans h⟩
  · exact Or.inr ⟨q, vm₁, B, X₁.warmed, X', hpost, hstep₁ _ fun acts => by rw [doInvoke_state]; exact hsteps⟩
end Calls
theorem vx_cls {s : State} {T : State} {vm₁ : Vm} {E : String} {k : ClassId} (hW : s.WarmedH vm₁) (h : (T.setVm vm₁).vm.findClass E = some k) : s.vm.findClass E = some k := by
  have h1 : vm₁.findClass E = some k := h
  rw [hW.alike.findClass] at h1
  exact h1
/-- the method's frame g, with q thrown over it -/
def vx_W (p : Program) (l : Launch) (e : Env) (R : Room) (s : State) (m : MethodId) (args : Array Value) (below : List Frame) (meth : Method) (c : Code) (H : Heap) (locs : List Loc) (cells slots : Nat) (Q : State → Prop) (g : JFrame) (q : Addr) : Prop :=
  ∀ T : State, T.heap = H → Stand p l e R s m args below meth c T locs cells slots → ∃ t, Steps p.tables e below ((T.setTop g).pushFrame (.throwing q)) t ∧ Q t
def vx_Run (p : Program) (l : Launch) (e : Env) (R : Room) (s : State) (m : MethodId) (args : Array Value) (below : List Frame) (meth : Method) (c : Code) (H : Heap) (locs : List Loc) (cells slots mc ms : Nat) (g : JFrame) (rest : List Value) (Qa : State → Outcome → State → Prop) (XC : String → State → State → Prop) (free : Addr → Prop) : Prop :=
  ∀ T : State, T.heap = H → Stand p l e R s m args below meth c T locs cells slots →
    (∃ (v : Option Value) (st₀ t T' : State) (L : List Loc), st₀.heap = H ∧ Stand p l e R s m args below meth c T' (locs ++ L) (cells + mc) (slots + ms) ∧ (∀ q ∈ L, free q.base) ∧ T'.heap = t.heap ∧ T'.vm = t.vm ∧ Qa st₀ (.returned v) t ∧
      Goes p e below T g T' { g with pc := g.pc + 3, stack := v.toList ++ rest }) ∨
    (∃ (q : Addr) (st₀ t T' : State) (L : List Loc) (E : String) (ce : Cell), st₀.heap = H ∧ Stand p l e R s m args below meth c T' (locs ++ L) (cells + mc) (slots + ms) ∧ (∀ z ∈ L, free z.base) ∧ T'.heap = t.heap ∧ T'.vm = t.vm ∧ XC E st₀ t ∧ t.heap[q]? = some ce ∧ ce.vm = .none ∧ s.vm.findClass E = some ce.cls ∧
      Steps p.tables e below (T.setTop g) ((T'.setTop { g with stack := rest }).pushFrame (.throwing q)))
def vx_X {S : Type} (px : S → Prop) (B : String → S → State → Prop) (A : Nat → Prop) : String → State → State → Prop := fun E st t => ∃ u : S, px u ∧ B E u t ∧ va_F A st t
section Runs
variable {p : Program} {l : Launch} {e : Env} {R : Room} {s : State} {m : MethodId} {args : Array Value} {below : List Frame} {meth : Method} {c : Code} {H : Heap} {locs : List Loc} {cells slots : Nat}
variable {y : MethodName} {bytes cc : ByteArray} {maxL nL mc ms n index : Nat} {ret : Option FieldType} {ws : List Cond} {rm : Room} {Pc : Array Value → State → Prop} {Qc : Array Value → State → Outcome → State → Prop} {XC : String → State → State → Prop} {free : Addr → Prop} {Ts : List Cond} {own C : String} {b : Addr} {As rest : List Value} {g : JFrame}
theorem vx_callBack (cb : CallB R s args own index y bytes maxL ret ws rm mc ms n) (hM : vx_Met l y ws rm Pc Qc XC mc ms free) (hbl : FrameBlind Pc) : vx_Back l R p e below s args y 3 8 (PreOf R mc ms Pc) (PostOf Qc mc ms free) (vx_Post XC mc ms free) := by
  obtain ⟨hrc, hrs, hfr, hlo, hws, hcw, -, hini, -⟩ := cb
  exact vx_back (bytes := bytes) (maxL := maxL) (ret := ret) hM hbl hrc hrs hfr hlo hws hcw (fun a' U hW => word_at hW (Or.inl (by first | rfl | simp [Cond.onTables, Cond.keeps, Cond.steady])) hini)
theorem vx_runV (S : CallFix p m c cc nL s args Ts own) (hM : vx_Met l y ws rm Pc Qc XC mc ms free) (cw : CallW R s args own C index y bytes maxL ret ws rm mc ms n) (hp : PreV s H C b Pc As)
    (hg : g.method = m) (hn : As.length = n) (hsize : g.locals.size = nL) (hstack : g.stack = As.reverse ++ .ref b :: rest) (hW : 2 * g.monitorRoom + (rest.map fun v => v.category).sum ≤ 8) (hdg : decode cc g.pc = .ok (.invokevirtual index, 3)) (hf : cells + mc ≤ R.cells ∧ slots + ms ≤ R.slots) :
    vx_Run p l e R s m args below meth c H locs cells slots mc ms g rest (Qc (Value.ref b :: As).toArray) XC free := by
  have hK : vx_Back l R p e below s args y 3 8 (PreOf R mc ms Pc) (PostOf Qc mc ms free) (vx_Post XC mc ms free) := vx_callBack cw.1 hM hp.1
  obtain ⟨⟨-, -, -, -, -, -, hcode, -, hy, hlen, hl⟩, hin, hse⟩ := cw
  obtain ⟨hx, hb, hml, ho, -⟩ := S
  obtain ⟨-, ⟨cellB, hcB, hoB, hclB⟩, hPc⟩ := hp
  intro T hT X
  rcases vx_callV X hx (C := C) (bytes := bytes) (maxL := maxL) (ret := ret) ho hl hin hse hcode hy hK (by rw [hT]; exact hcB) hoB hclB hg (hsize.trans hml.symm) (argsL := As) (rest := rest) (fun sig h => hn.trans (hlen sig h)) hstack hW (by rw [hb]; exact hdg)
    (fun vm₁ hW₁ => ⟨hf.1, hf.2, hPc (T.setVm vm₁) hT hW₁⟩) with ⟨v, vm₁, ⟨U', l2, c2, s2⟩, hW₁, X', ⟨g', mk, t, L, e1, e2, hq, h1, hL, h2, h3⟩, st⟩ | ⟨q, vm₁, ⟨U', l2, c2, s2⟩, hW₁, X', ⟨g', mk, t, L, E, ce, e1, e2, hq, hce, hcv, hcl, h1, hL, h2, h3⟩, st⟩
  · dsimp only [Pt.U, Pt.locs, Pt.cells, Pt.slots] at X' e1 e2 h1 h2 h3 st
    subst h1; subst h2; subst h3
    exact Or.inl ⟨v, (T.setVm vm₁).calling g' mk (Value.ref b :: As).toArray, t, U', L, hT, X', hL, e1, e2, hq, st⟩
  · dsimp only [Pt.U, Pt.locs, Pt.cells, Pt.slots] at X' e1 e2 h1 h2 h3 st hcl
    subst h1; subst h2; subst h3
    exact Or.inr ⟨q, (T.setVm vm₁).calling g' mk (Value.ref b :: As).toArray, t, U', L, E, ce, hT, X', hL, e1, e2, hq, hce, hcv, vx_cls hW₁ hcl, st⟩
theorem vx_runS (S : CallFix p m c cc nL s args Ts own) (hM : vx_Met l y ws rm Pc Qc XC mc ms free) (cw : CallB R s args own index y bytes maxL ret ws rm mc ms n ∧ (Cond.static y).before args s = true) (hp : PreS s H Pc As)
    (hg : g.method = m) (hn : As.length = n) (hsize : g.locals.size = nL) (hstack : g.stack = As.reverse ++ rest) (hW : 2 * g.monitorRoom + (rest.map fun v => v.category).sum ≤ 8) (hdg : decode cc g.pc = .ok (.invokestatic index, 3)) (hf : cells + mc ≤ R.cells ∧ slots + ms ≤ R.slots) :
    vx_Run p l e R s m args below meth c H locs cells slots mc ms g rest (Qc As.toArray) XC free := by
  have hK : vx_Back l R p e below s args y 3 8 (PreOf R mc ms Pc) (PostOf Qc mc ms free) (vx_Post XC mc ms free) := vx_callBack cw.1 hM hp.1
  obtain ⟨⟨-, -, -, -, -, -, hcode, hini, hy, hlen, hl⟩, hstt⟩ := cw
  obtain ⟨hx, hb, hml, ho, -⟩ := S
  intro T hT X
  rcases vx_callS X hx (bytes := bytes) (maxL := maxL) (ret := ret) ho hl hstt hini hcode hy hK hg (hsize.trans hml.symm) (argsL := As) (rest := rest) (fun sig h => hn.trans (hlen sig h)) hstack hW (by rw [hb]; exact hdg)
    (fun vm₁ hW₁ => ⟨hf.1, hf.2, hp.2 (T.setVm vm₁) hT hW₁⟩) with ⟨v, vm₁, ⟨U', l2, c2, s2⟩, hW₁, X', ⟨g', mk, t, L, e1, e2, hq, h1, hL, h2, h3⟩, st⟩ | ⟨q, vm₁, ⟨U', l2, c2, s2⟩, hW₁, X', ⟨g', mk, t, L, E, ce, e1, e2, hq, hce, hcv, hcl, h1, hL, h2, h3⟩, st⟩
  · dsimp only [Pt.U, Pt.locs, Pt.cells, Pt.slots] at X' e1 e2 h1 h2 h3 st
    subst h1; subst h2; subst h3
    exact Or.inl ⟨v, (T.setVm vm₁).calling g' mk As.toArray, t, U', L, hT, X', hL, e1, e2, hq, st⟩
  · dsimp only [Pt.U, Pt.locs, Pt.cells, Pt.slots] at X' e1 e2 h1 h2 h3 st hcl
    subst h1; subst h2; subst h3
    exact Or.inr ⟨q, (T.setVm vm₁).calling g' mk As.toArray, t, U', L, E, ce, hT, X', hL, e1, e2, hq, hce, hcv, vx_cls hW₁ hcl, st⟩
end Runs
section Rows
variable {p : Program} {l : Launch} {e : Env} {R : Room} {s : State} {m : MethodId} {args : Array Value} {below : List Frame} {meth : Method} {c : Code} {H : Heap} {locs : List Loc} {cells slots : Nat} {Q : State → Prop}
variable {mc ms : Nat} {free : Addr → Prop} {A0 A1 : Nat → Prop} {H0 : Heap} {a : Array Value} {pc : Nat} {ls : Array Slot} {st0 rest : List Value}
theorem vx_keep {st₀ t T' : State} {L : List Loc} (h0 : st₀.heap = H) (e1 : T'.heap = t.heap) (hS : va_S A0 H0 H locs) (hA : ∀ q, q < H.size → A1 q → A0 q) (hf : ∀ q, free q → A0 q) (hL : ∀ q ∈ L, free q.base) (hF : va_F A1 st₀ t) :
    H.size ≤ T'.heap.size ∧ (∀ q : Nat, q < H.size → ¬ A1 q → T'.heap[q]? = H[q]?) ∧ va_S A0 H0 T'.heap (locs ++ L) := by
  obtain ⟨hz, hk⟩ := hF
  rw [h0] at hz hk
  exact ⟨by rw [e1]; exact hz, fun q h1 h2 => by rw [e1]; exact hk q h1 h2,
    ⟨Nat.le_trans hS.1 (by rw [e1]; exact hz), fun q h1 h2 => by rw [e1, hk q (Nat.lt_of_lt_of_le h1 hS.1) (fun z => h2 (hA q (Nat.lt_of_lt_of_le h1 hS.1) z))]; exact hS.2.1 q h1 h2, fun q hq => by
      rcases List.mem_append.mp hq with h | h
      · exact hS.2.2 q h
      · exact hf _ (hL q h)⟩⟩
theorem vx_calli {S SX : Type} {post : Int32 → S → Prop} {px : SX → Prop} {B : S → State → Prop} {BX : String → SX → State → Prop} {AX : Nat → Prop} (hr : vx_Run p l e R s m args below meth c H locs cells slots mc ms (F0 m pc ls st0) rest (va_Qi post B A1 a) (vx_X px BX AX) free) (hS : va_S A0 H0 H locs) (hA : ∀ q, q < H.size → A1 q → A0 q) (hf : ∀ q, free q → A0 q) (hAX : ∀ q, q < H.size → AX q → A0 q)
    (kx : ∀ (E : String) (ce : Cell) (q9 : Addr) (u : SX) (t : State) (H1 : Heap) (locs1 : List Loc), t.heap = H1 → s.vm.Alike t.vm → px u → BX E u t → H.size ≤ H1.size → (∀ q : Nat, q < H.size → ¬ AX q → H1[q]? = H[q]?) → va_S A0 H0 H1 locs1 → H1[q9]? = some ce → ce.vm = .none → s.vm.findClass E = some ce.cls → vx_W p l e R s m args below meth c H1 locs1 (cells + mc) (slots + ms) Q (F0 m pc ls rest) q9)
    (kk : ∀ (r : Int32) (u : S) (t : State) (H1 : Heap) (locs1 : List Loc), t.heap = H1 → s.vm.Alike t.vm → post r u → B u t → H.size ≤ H1.size → (∀ q : Nat, q < H.size → ¬ A1 q → H1[q]? = H[q]?) → va_S A0 H0 H1 locs1 → W p l e R s m args below meth c H1 locs1 (cells + mc) (slots + ms) Q (F0 m (pc + 3) ls (.int r :: rest))) : W p l e R s m args below meth c H locs cells slots Q (F0 m pc ls st0) := by
  intro T hT X
  rcases hr T hT X with ⟨v, st₀, t, T', L, h0, X', hL, e1, e2, ⟨⟨r, u, hv, hp, hb⟩, hF⟩, st⟩ | ⟨q, st₀, t, T', L, E, ce, h0, X', hL, e1, e2, ⟨u, hp, hb, hF⟩, hce, hcv, hcl, st⟩
  · cases hv
    obtain ⟨k1, k2, k3⟩ := vx_keep h0 e1 hS hA hf hL hF
    obtain ⟨t2, a1, b1⟩ := kk r u t T'.heap (locs ++ L) e1.symm (by rw [← e2]; exact X'.warmed.alike) hp hb k1 k2 k3 T' rfl X'
    exact ⟨t2, st t2 a1, b1⟩
  · obtain ⟨k1, k2, k3⟩ := vx_keep h0 e1 hS hAX hf hL hF
    obtain ⟨t2, a1, b1⟩ := kx E ce q u t T'.heap (locs ++ L) e1.symm (by rw [← e2]; exact X'.warmed.alike) hp hb k1 k2 k3 (by rw [e1]; exact hce) hcv hcl T' rfl X'
    exact ⟨t2, st.trans a1, b1⟩
theorem vx_calll {S SX : Type} {post : Int64 → S → Prop} {px : SX → Prop} {B : S → State → Prop} {BX : String → SX → State → Prop} {AX : Nat → Prop} (hr : vx_Run p l e R s m args below meth c H locs cells slots mc ms (F0 m pc ls st0) rest (va_Ql post B A1 a) (vx_X px BX AX) free) (hS : va_S A0 H0 H locs) (hA : ∀ q, q < H.size → A1 q → A0 q) (hf : ∀ q, free q → A0 q) (hAX : ∀ q, q < H.size → AX q → A0 q)
    (kx : ∀ (E : String) (ce : Cell) (q9 : Addr) (u : SX) (t : State) (H1 : Heap) (locs1 : List Loc), t.heap = H1 → s.vm.Alike t.vm → px u → BX E u t → H.size ≤ H1.size → (∀ q : Nat, q < H.size → ¬ AX q → H1[q]? = H[q]?) → va_S A0 H0 H1 locs1 → H1[q9]? = some ce → ce.vm = .none → s.vm.findClass E = some ce.cls → vx_W p l e R s m args below meth c H1 locs1 (cells + mc) (slots + ms) Q (F0 m pc ls rest) q9)
    (kk : ∀ (r : Int64) (u : S) (t : State) (H1 : Heap) (locs1 : List Loc), t.heap = H1 → s.vm.Alike t.vm → post r u → B u t → H.size ≤ H1.size → (∀ q : Nat, q < H.size → ¬ A1 q → H1[q]? = H[q]?) → va_S A0 H0 H1 locs1 → W p l e R s m args below meth c H1 locs1 (cells + mc) (slots + ms) Q (F0 m (pc + 3) ls (.long r :: rest))) : W p l e R s m args below meth c H locs cells slots Q (F0 m pc ls st0) := by
  intro T hT X
  rcases hr T hT X with ⟨v, st₀, t, T', L, h0, X', hL, e1, e2, ⟨⟨r, u, hv, hp, hb⟩, hF⟩, st⟩ | ⟨q, st₀, t, T', L, E, ce, h0, X', hL, e1, e2, ⟨u, hp, hb, hF⟩, hce, hcv, hcl, st⟩
  · cases hv
    obtain ⟨k1, k2, k3⟩ := vx_keep h0 e1 hS hA hf hL hF
    obtain ⟨t2, a1, b1⟩ := kk r u t T'.heap (locs ++ L) e1.symm (by rw [← e2]; exact X'.warmed.alike) hp hb k1 k2 k3 T' rfl X'
    exact ⟨t2, st t2 a1, b1⟩
  · obtain ⟨k1, k2, k3⟩ := vx_keep h0 e1 hS hAX hf hL hF
    obtain ⟨t2, a1, b1⟩ := kx E ce q u t T'.heap (locs ++ L) e1.symm (by rw [← e2]; exact X'.warmed.alike) hp hb k1 k2 k3 (by rw [e1]; exact hce) hcv hcl T' rfl X'
    exact ⟨t2, st.trans a1, b1⟩
theorem vx_callf {S SX : Type} {post : UInt32 → S → Prop} {px : SX → Prop} {B : S → State → Prop} {BX : String → SX → State → Prop} {AX : Nat → Prop} (hr : vx_Run p l e R s m args below meth c H locs cells slots mc ms (F0 m pc ls st0) rest (va_Qf post B A1 a) (vx_X px BX AX) free) (hS : va_S A0 H0 H locs) (hA : ∀ q, q < H.size → A1 q → A0 q) (hf : ∀ q, free q → A0 q) (hAX : ∀ q, q < H.size → AX q → A0 q)
    (kx : ∀ (E : String) (ce : Cell) (q9 : Addr) (u : SX) (t : State) (H1 : Heap) (locs1 : List Loc), t.heap = H1 → s.vm.Alike t.vm → px u → BX E u t → H.size ≤ H1.size → (∀ q : Nat, q < H.size → ¬ AX q → H1[q]? = H[q]?) → va_S A0 H0 H1 locs1 → H1[q9]? = some ce → ce.vm = .none → s.vm.findClass E = some ce.cls → vx_W p l e R s m args below meth c H1 locs1 (cells + mc) (slots + ms) Q (F0 m pc ls rest) q9)
    (kk : ∀ (r : UInt32) (u : S) (t : State) (H1 : Heap) (locs1 : List Loc), t.heap = H1 → s.vm.Alike t.vm → post r u → B u t → H.size ≤ H1.size → (∀ q : Nat, q < H.size → ¬ A1 q → H1[q]? = H[q]?) → va_S A0 H0 H1 locs1 → W p l e R s m args below meth c H1 locs1 (cells + mc) (slots + ms) Q (F0 m (pc + 3) ls (.float r :: rest))) : W p l e R s m args below meth c H locs cells slots Q (F0 m pc ls st0) := by
  intro T hT X
  rcases hr T hT X with ⟨v, st₀, t, T', L, h0, X', hL, e1, e2, ⟨⟨r, u, hv, hp, hb⟩, hF⟩, st⟩ | ⟨q, st₀, t, T', L, E, ce, h0, X', hL, e1, e2, ⟨u, hp, hb, hF⟩, hce, hcv, hcl, st⟩
  · cases hv
    obtain ⟨k1, k2, k3⟩ := vx_keep h0 e1 hS hA hf hL hF
    obtain ⟨t2, a1, b1⟩ := kk r u t T'.heap (locs ++ L) e1.symm (by rw [← e2]; exact X'.warmed.alike) hp hb k1 k2 k3 T' rfl X'
    exact ⟨t2, st t2 a1, b1⟩
  · obtain ⟨k1, k2, k3⟩ := vx_keep h0 e1 hS hAX hf hL hF
    obtain ⟨t2, a1, b1⟩ := kx E ce q u t T'.heap (locs ++ L) e1.symm (by rw [← e2]; exact X'.warmed.alike) hp hb k1 k2 k3 (by rw [e1]; exact hce) hcv hcl T' rfl X'
    exact ⟨t2, st.trans a1, b1⟩
theorem vx_calld {S SX : Type} {post : UInt64 → S → Prop} {px : SX → Prop} {B : S → State → Prop} {BX : String → SX → State → Prop} {AX : Nat → Prop} (hr : vx_Run p l e R s m args below meth c H locs cells slots mc ms (F0 m pc ls st0) rest (va_Qd post B A1 a) (vx_X px BX AX) free) (hS : va_S A0 H0 H locs) (hA : ∀ q, q < H.size → A1 q → A0 q) (hf : ∀ q, free q → A0 q) (hAX : ∀ q, q < H.size → AX q → A0 q)
    (kx : ∀ (E : String) (ce : Cell) (q9 : Addr) (u : SX) (t : State) (H1 : Heap) (locs1 : List Loc), t.heap = H1 → s.vm.Alike t.vm → px u → BX E u t → H.size ≤ H1.size → (∀ q : Nat, q < H.size → ¬ AX q → H1[q]? = H[q]?) → va_S A0 H0 H1 locs1 → H1[q9]? = some ce → ce.vm = .none → s.vm.findClass E = some ce.cls → vx_W p l e R s m args below meth c H1 locs1 (cells + mc) (slots + ms) Q (F0 m pc ls rest) q9)
    (kk : ∀ (r : UInt64) (u : S) (t : State) (H1 : Heap) (locs1 : List Loc), t.heap = H1 → s.vm.Alike t.vm → post r u → B u t → H.size ≤ H1.size → (∀ q : Nat, q < H.size → ¬ A1 q → H1[q]? = H[q]?) → va_S A0 H0 H1 locs1 → W p l e R s m args below meth c H1 locs1 (cells + mc) (slots + ms) Q (F0 m (pc + 3) ls (.double r :: rest))) : W p l e R s m args below meth c H locs cells slots Q (F0 m pc ls st0) := by
  intro T hT X
  rcases hr T hT X with ⟨v, st₀, t, T', L, h0, X', hL, e1, e2, ⟨⟨r, u, hv, hp, hb⟩, hF⟩, st⟩ | ⟨q, st₀, t, T', L, E, ce, h0, X', hL, e1, e2, ⟨u, hp, hb, hF⟩, hce, hcv, hcl, st⟩
  · cases hv
    obtain ⟨k1, k2, k3⟩ := vx_keep h0 e1 hS hA hf hL hF
    obtain ⟨t2, a1, b1⟩ := kk r u t T'.heap (locs ++ L) e1.symm (by rw [← e2]; exact X'.warmed.alike) hp hb k1 k2 k3 T' rfl X'
    exact ⟨t2, st t2 a1, b1⟩
  · obtain ⟨k1, k2, k3⟩ := vx_keep h0 e1 hS hAX hf hL hF
    obtain ⟨t2, a1, b1⟩ := kx E ce q u t T'.heap (locs ++ L) e1.symm (by rw [← e2]; exact X'.warmed.alike) hp hb k1 k2 k3 (by rw [e1]; exact hce) hcv hcl T' rfl X'
    exact ⟨t2, st.trans a1, b1⟩
theorem vx_callv {S SX : Type} {post : S → Prop} {px : SX → Prop} {B : S → State → Prop} {BX : String → SX → State → Prop} {AX : Nat → Prop} (hr : vx_Run p l e R s m args below meth c H locs cells slots mc ms (F0 m pc ls st0) rest (va_Qv post B A1 a) (vx_X px BX AX) free) (hS : va_S A0 H0 H locs) (hA : ∀ q, q < H.size → A1 q → A0 q) (hf : ∀ q, free q → A0 q) (hAX : ∀ q, q < H.size → AX q → A0 q)
    (kx : ∀ (E : String) (ce : Cell) (q9 : Addr) (u : SX) (t : State) (H1 : Heap) (locs1 : List Loc), t.heap = H1 → s.vm.Alike t.vm → px u → BX E u t → H.size ≤ H1.size → (∀ q : Nat, q < H.size → ¬ AX q → H1[q]? = H[q]?) → va_S A0 H0 H1 locs1 → H1[q9]? = some ce → ce.vm = .none → s.vm.findClass E = some ce.cls → vx_W p l e R s m args below meth c H1 locs1 (cells + mc) (slots + ms) Q (F0 m pc ls rest) q9)
    (kk : ∀ (u : S) (t : State) (H1 : Heap) (locs1 : List Loc), t.heap = H1 → s.vm.Alike t.vm → post u → B u t → H.size ≤ H1.size → (∀ q : Nat, q < H.size → ¬ A1 q → H1[q]? = H[q]?) → va_S A0 H0 H1 locs1 → W p l e R s m args below meth c H1 locs1 (cells + mc) (slots + ms) Q (F0 m (pc + 3) ls (rest))) : W p l e R s m args below meth c H locs cells slots Q (F0 m pc ls st0) := by
  intro T hT X
  rcases hr T hT X with ⟨v, st₀, t, T', L, h0, X', hL, e1, e2, ⟨⟨u, hv, hp, hb⟩, hF⟩, st⟩ | ⟨q, st₀, t, T', L, E, ce, h0, X', hL, e1, e2, ⟨u, hp, hb, hF⟩, hce, hcv, hcl, st⟩
  · cases hv
    obtain ⟨k1, k2, k3⟩ := vx_keep h0 e1 hS hA hf hL hF
    obtain ⟨t2, a1, b1⟩ := kk u t T'.heap (locs ++ L) e1.symm (by rw [← e2]; exact X'.warmed.alike) hp hb k1 k2 k3 T' rfl X'
    exact ⟨t2, st t2 a1, b1⟩
  · obtain ⟨k1, k2, k3⟩ := vx_keep h0 e1 hS hAX hf hL hF
    obtain ⟨t2, a1, b1⟩ := kx E ce q u t T'.heap (locs ++ L) e1.symm (by rw [← e2]; exact X'.warmed.alike) hp hb k1 k2 k3 (by rw [e1]; exact hce) hcv hcl T' rfl X'
    exact ⟨t2, st.trans a1, b1⟩
end Rows
section Ends
variable {p : Program} {l : Launch} {e : Env} {R : Room} {s : State} {m : MethodId} {args : Array Value} {below : List Frame} {meth : Method} {c : Code} {H : Heap} {locs : List Loc} {cells slots : Nat} {Q : State → Prop}
variable {mc ms : Nat} {free : Addr → Prop} {A0 A1 : Nat → Prop} {H0 : Heap} {a : Array Value} {ls : Array Slot} {st0 rest : List Value}
variable {Qc : Array Value → State → Outcome → State → Prop} {XC : String → State → State → Prop}
/-- what a body that may throw owes at its end -/
def vx_MQ (below : List Frame) (Qc : Array Value → State → Outcome → State → Prop) (XC : String → State → State → Prop) (a : Array Value) (s : State) (mc ms : Nat) (free : Addr → Prop) : State → Prop := fun t =>
  ∃ o, t.status = .running ∧ Ended t below o ∧ vx_Q Qc XC mc ms free a s o t
theorem vx_ret {g : JFrame} {mc ms : Nat} (k : W p l e R s m args below meth c H locs cells slots (MQ below Qc args s mc ms free) g) : W p l e R s m args below meth c H locs cells slots (vx_MQ below Qc XC args s mc ms free) g := by
  intro T hT X
  obtain ⟨t, a1, o, b1, b2, b3, b4⟩ := k T hT X
  exact ⟨t, a1, o, b1, b2, Or.inl ⟨b3, b4⟩⟩
/-- not caught here: it goes on to the caller -/
theorem vx_widen {g : JFrame} {q : Addr} {k n : Nat} (h1 : cells ≤ k) (h2 : slots ≤ n) (kk : vx_W p l e R s m args below meth c H locs k n Q g q) : vx_W p l e R s m args below meth c H locs cells slots Q g q := fun T hT X => kk T hT (stand_widen X h1 h2)
theorem vx_out {pc : Nat} {E : String} {ce : Cell} {q : Addr} {mc ms : Nat} (hout : ∀ x ∈ c.exceptionTable.toList, covers x pc = false) (hlocks : meth.locks = false) (hcell : H[q]? = some ce) (hv : ce.vm = .none) (hcl : s.vm.findClass E = some ce.cls)
    (hx : ∀ t : State, t.heap = H → s.vm.Alike t.vm → XC E s t) (hf : ∀ z ∈ locs, free z.base) (hc : cells ≤ mc) (hs : slots ≤ ms) :
    vx_W p l e R s m args below meth c H locs cells slots (vx_MQ below Qc XC args s mc ms free) (F0 m pc ls rest) q := by
  intro T hT X
  obtain ⟨st1, hrun, hend, hW, hsm⟩ := X.leaveThrown q (g := F0 m pc ls rest) rfl rfl rfl hout hlocks
  have hcell9 : (T.setFrames (.throwing q :: below)).heap[q]? = some ce := by
    show T.heap[q]? = some ce
    rw [hT]; exact hcell
  exact ⟨_, st1, .threw q, hrun, hend, Or.inr ⟨q, rfl, E, ce, locs, hx _ hT hW.alike, hcell9, hv, hcl, hW, hsm.mono hc hs, hf⟩⟩
theorem vx_frame {U : State} {k n : Nat} (h : s.sameButNew ({ U with vm := s.vm } : State) locs k n) : s.heap.size ≤ U.heap.size ∧ ∀ q : Nat, q < s.heap.size → (∀ z ∈ locs, z.base ≠ q) → U.heap[q]? = s.heap[q]? := by
  obtain ⟨-, h2, -, -, -, h6⟩ := h
  refine ⟨h2, fun q hq hz => ?_⟩
  obtain ⟨c9, e1, e2, e3, e4⟩ := h6 q _ (Array.getElem?_eq_getElem hq)
  have hs : c9.slots = (s.heap[q]).slots := Array.ext_getElem? fun i => e4 i fun hm => hz _ hm rfl
  have h9 : c9 = s.heap[q] := by
    rw [hs] at e2
    exact e2
  have e5 : U.heap[q]? = some c9 := e1
  rw [e5, h9, Array.getElem?_eq_getElem hq]
/-- the words of a throw but the four that speak of the heap -/
def vx_no (w : Cond) : Bool := decide (w ≠ .isRef (.static Bundle.tN "UNASSIGNED_STACK" Bundle.steD)) && decide (w ≠ .isRef (.static Bundle.tN "SUPPRESSED_SENTINEL" Bundle.listD)) && decide (w ≠ .laysStatic Bundle.tN "UNASSIGNED_STACK" Bundle.steD) && decide (w ≠ .laysStatic Bundle.tN "SUPPRESSED_SENTINEL" Bundle.listD)
def vx_at0 (own : String) (ic : Nat) (X : String) (names : List String) : List Cond := (Bundle.ownAtoms0 own ic X names).filter vx_no
def vx_atS (own : String) (ic : Nat) (X : String) (names : List String) : List Cond := (Bundle.ownAtoms own ic X names).filter vx_no
/-- a word that the tables alone decide, or a good one -/
def vx_ot (w : Cond) : Bool := w.onTables || goodWord w
theorem vx_ot_at {args a' : Array Value} {s U : State} {w : Cond} (hW : s.WarmedH U.vm) (hvm : s.vm = U.vm) (hg : vx_ot w = true) (h : w.before args s = true) : w.before a' U = true := by
  simp only [vx_ot, Bool.or_eq_true] at hg
  rcases hg with hg | hg
  · exact va_tabs hg hvm h
  · exact word_at hW (good_of_word hg) h
/-- a list's words: the good ones out of the method's own list, the others by premises of their own -/
theorem vx_hat {args : Array Value} {s : State} {L B : List Cond} (h1 : ∀ w ∈ L.filter goodWord, w.before args s = true) (h2 : ∀ w ∈ L.filter (fun w => !goodWord w), w ∈ B) (h3 : ∀ w ∈ B, w.before args s = true) : ∀ w ∈ L, w.before args s = true := by
  intro w hw
  by_cases g : goodWord w = true
  · exact h1 w (List.mem_filter.mpr ⟨hw, g⟩)
  · refine h3 w (h2 w (List.mem_filter.mpr ⟨hw, ?_⟩))
    show (!goodWord w) = true
    cases hgw : goodWord w
    · rfl
    · exact absurd hgw g
theorem vx_c {args : Array Value} {s : State} {w : Cond} {B : List Cond} (h : w.before args s = true) (t : ∀ w ∈ B, w.before args s = true) : ∀ w' ∈ w :: B, w'.before args s = true := fun w' h' => (List.mem_cons.mp h').elim (fun e => by rw [e]; exact h) (t w')
theorem vx_n {args : Array Value} {s : State} : ∀ w ∈ ([] : List Cond), w.before args s = true := fun _ h => nomatch h
theorem vx_own {args : Array Value} {s : State} {L : List Cond} (h1 : ∀ w ∈ L.filter vx_no, w.before args s = true)
    (hU : (Cond.isRef (.static Bundle.tN "UNASSIGNED_STACK" Bundle.steD)).before args s = true) (hN : (Cond.isRef (.static Bundle.tN "SUPPRESSED_SENTINEL" Bundle.listD)).before args s = true)
    (lU : (Cond.laysStatic Bundle.tN "UNASSIGNED_STACK" Bundle.steD).before args s = true) (lN : (Cond.laysStatic Bundle.tN "SUPPRESSED_SENTINEL" Bundle.listD).before args s = true) : ∀ w ∈ L, w.before args s = true := by
  intro w hw
  by_cases e1 : w = .isRef (.static Bundle.tN "UNASSIGNED_STACK" Bundle.steD)
  · rw [e1]; exact hU
  · by_cases e2 : w = .isRef (.static Bundle.tN "SUPPRESSED_SENTINEL" Bundle.listD)
    · rw [e2]; exact hN
    · by_cases e3 : w = .laysStatic Bundle.tN "UNASSIGNED_STACK" Bundle.steD
      · rw [e3]; exact lU
      · by_cases e4 : w = .laysStatic Bundle.tN "SUPPRESSED_SENTINEL" Bundle.listD
        · rw [e4]; exact lN
        · exact h1 w (List.mem_filter.mpr ⟨hw, by unfold vx_no; rw [decide_eq_true e1, decide_eq_true e2, decide_eq_true e3, decide_eq_true e4]; rfl⟩)
/-- where a static field lies, its class's statics cell in H -/
def vx_L (C n d : String) (A : Nat → Prop) (U : State) (H : Heap) : Prop := ∃ (c : ClassId) (k : Class) (i : Nat) (f : Field) (a : Nat) (cell : Cell), U.vm.findClass C = some c ∧ U.fieldFound? C n d = some (c, k, i, f) ∧ f.isStatic = true ∧ k.statics = some a ∧ H[a]? = some cell ∧ cell.vm.isStatics = true ∧ cell.cls = c ∧ f.slot < cell.slots.size ∧ k.staticTypes[f.slot]? = some f.type ∧ ¬ A a
theorem vx_L.moved {C n d : String} {A : Nat → Prop} {u U : State} {H : Heap} (hvm : u.vm.Alike U.vm) (h : vx_L C n d A u H) : vx_L C n d A U H := by
  obtain ⟨c, k, i, f, a, cell, h1, h2, h3, h4, h5, h6, h7, h8, h9, h10⟩ := h
  obtain ⟨k', hi', he⟩ := State.fieldFound?_setVm hvm h2
  exact ⟨c, k', i, f, a, cell, by rw [hvm.findClass]; exact h1, hi', h3, by rw [he]; exact h4, h5, h6, h7, h8, by rw [he]; exact h9, h10⟩
theorem vx_L.kept {C n d : String} {A : Nat → Prop} {U : State} {H H1 : Heap} (h : vx_L C n d A U H) (hq : ∀ a : Nat, a < H.size → ¬ A a → H1[a]? = H[a]?) : vx_L C n d A U H1 := by
  obtain ⟨c, k, i, f, a, cell, h1, h2, h3, h4, h5, h6, h7, h8, h9, h10⟩ := h
  exact ⟨c, k, i, f, a, cell, h1, h2, h3, h4, by rw [hq a (Array.getElem?_eq_some_iff.mp h5).1 h10]; exact h5, h6, h7, h8, h9, h10⟩
theorem vx_L.narrow {C n d : String} {A B : Nat → Prop} {U : State} {H : Heap} (h : vx_L C n d A U H) (hAB : ∀ q, B q → A q) : vx_L C n d B U H := by
  obtain ⟨c, k, i, f, a, cell, h1, h2, h3, h4, h5, h6, h7, h8, h9, h10⟩ := h
  exact ⟨c, k, i, f, a, cell, h1, h2, h3, h4, h5, h6, h7, h8, h9, fun z => h10 (hAB _ z)⟩
theorem vx_L.word {C n d : String} {A : Nat → Prop} {s : State} {args : Array Value} (h : vx_L C n d A s s.heap) : (Cond.laysStatic C n d).before args s = true := by
  obtain ⟨c, k, i, f, a, cell, h1, h2, h3, h4, h5, h6, h7, h8, h9, -⟩ := h
  show (Cond.laysStatic C n d).holds args s none s [] = true
  exact Cond.laysStatic_of h1 h2 h3 h4 h5 h6 h7 h8 h9
/-- .. and what it holds: null or some reference -/
def vx_Zq (C n d : String) (A : Nat → Prop) (U : State) (H : Heap) : Prop := va_Zq C n d A U H ∧ vx_L C n d A U H
theorem vx_Zq.moved {C n d : String} {A : Nat → Prop} {u U : State} {H : Heap} (hvm : u.vm.Alike U.vm) (h : vx_Zq C n d A u H) : vx_Zq C n d A U H := ⟨va_Zq.moved hvm h.1, vx_L.moved hvm h.2⟩
theorem vx_Zq.kept {C n d : String} {A : Nat → Prop} {U : State} {H H1 : Heap} (h : vx_Zq C n d A U H) (hq : ∀ a : Nat, a < H.size → ¬ A a → H1[a]? = H[a]?) : vx_Zq C n d A U H1 := ⟨va_Zq.kept h.1 hq, vx_L.kept h.2 hq⟩
theorem vx_Zq.narrow {C n d : String} {A B : Nat → Prop} {U : State} {H : Heap} (h : vx_Zq C n d A U H) (hAB : ∀ q, B q → A q) : vx_Zq C n d B U H := ⟨va_Zq.narrow h.1 hAB, vx_L.narrow h.2 hAB⟩
theorem vx_Zqof {args : Array Value} {s : State} {C n d : String} {A : Nat → Prop} (hl : (Cond.laysStatic C n d).before args s = true) (hini : (Cond.initialized C).before args s = true) (h : (Cond.isRef (.static C n d)).before args s = true) (hA : ∀ a : Nat, a < s.heap.size → ¬ A a) : vx_Zq C n d A s s.heap := by
  refine ⟨va_Zqof hl hini h hA, ?_⟩
  obtain ⟨c, k, i, f, a, cell, h1, h2, h3, h4, h5, h6, h7, h8, h9⟩ := Cond.laysStatic_spec hl
  exact ⟨c, k, i, f, a, cell, h1, h2, h3, h4, h5, h6, h7, h8, h9, hA a (Array.getElem?_eq_some_iff.mp h5).1⟩
theorem vx_isRef {C n d : String} {v : Value} {A : Nat → Prop} {s : State} {args : Array Value} (h : va_Z C n d v A s s.heap) (hv : v.isRef = true) : (Cond.isRef (.static C n d)).before args s = true := by
  obtain ⟨cf, kf, fi, f, a, cell, h1, h2, h3, h4, h5, h6, h7, -⟩ := h
  have he : (Term.static C n d).eval args s none [] s = some v := by
    simp [Term.eval, State.fieldNamed?, h1, h2, h4, h5, h6, h7]
  simp only [Cond.before, Cond.holds, Cond.value, he]
  cases v <;> simp_all [Value.isRef]
theorem vx_isRefq {C n d : String} {A : Nat → Prop} {s : State} {args : Array Value} (h : va_Zq C n d A s s.heap) : (Cond.isRef (.static C n d)).before args s = true := by
  rcases h with h | ⟨t, h⟩
  · exact vx_isRef h rfl
  · exact vx_isRef h rfl
/-- the same frame, seen from here: as if the method were called anew in this heap -/
theorem vx_rebase {T : State} (X : Stand p l e R s m args below meth c T locs cells slots) {R' : Room} (hf : R'.frames ≤ R.frames) (hl : R'.locals ≤ R.locals) (hc : cells + R'.cells ≤ R.cells) (hs : slots + R'.slots ≤ R.slots) :
    Stand p l e R' ((T.setVm s.vm).setFrames (.invoking m args :: below)) m args below meth c T [] 0 0 := by
  have htop : (T.setVm s.vm).topJava?.isSome := X.here.top
  have hF : ((T.setVm s.vm).setFrames (.invoking m args :: below)).frames = .invoking m args :: below := State.frames_setFrames _ (State.cur_lt_of_top htop)
  obtain ⟨g₀, hg0⟩ := Option.isSome_iff_exists.mp htop
  obtain ⟨r, hr⟩ := State.topJava?_eq_some.mp hg0
  have hl9 : e.platform.stackLimits (T.setVm s.vm).me = e.platform.stackLimits s.me := X.limits
  have hb9 : (T.setVm s.vm).me.stackBytes = s.me.stackBytes := X.bytes
  refine ⟨X.admits, X.cas, X.clock, hF, ?_, X.hears, X.method, X.code, X.here, X.tail, X.warmed, ?_, ?_, ?_⟩
  · have h := X.room
    have hU : ((T.setVm s.vm).setFrames (.invoking m args :: below)).localsInUse = s.localsInUse := by
      rw [State.localsInUse_invoking hF (meth := meth) (c := c) X.method X.code, State.localsInUse_invoking X.frames X.method X.code]
    simp only [State.hasRoom, Bool.and_eq_true, decide_eq_true_eq] at h ⊢
    obtain ⟨⟨⟨⟨h1, h2, h3, h4, h5, h6⟩, h7⟩, h8⟩, h9⟩ := h
    rw [X.frames, List.length_cons] at h2 h3
    have q1 := X.heapSize
    have q2 := X.used
    simp only [hF, hU, List.length_cons, State.stackLimits_setFrames, State.stackBytes_setFrames, hl9, hb9]
    refine ⟨⟨⟨⟨by omega, by omega, by omega, by omega, by omega, h6⟩, ?_⟩, ?_⟩, X.book⟩
    · show T.heap.size + R'.cells ≤ e.platform.maxCells
      omega
    · show T.slotsUsed + R'.slots ≤ e.platform.maxSlots
      omega
  · rw [State.stackLimits_setFrames]; rfl
  · rw [State.stackBytes_setFrames]; rfl
  · refine ⟨?_, Nat.le_refl _, Nat.le_refl _, ?_, ?_, fun a c9 h9 => ⟨c9, h9, rfl, rfl, fun _ _ => rfl⟩⟩
    · obtain ⟨t, ht, -⟩ := State.frames_cons hr
      show T.setVm s.vm = { ((T.setVm s.vm).setFrames (.invoking m args :: below)).setFrames (T.setVm s.vm).frames with heap := T.heap, slotsUsed := T.slotsUsed }
      rw [State.setFrames_setFrames, State.setFrames_self ht]
      rfl
    · show T.slotsUsed = T.slotsUsed + ((T.heap.toList.drop T.heap.size).map (·.slots.size)).sum
      rw [List.drop_eq_nil_of_le (Nat.le_of_eq Array.length_toList)]
      rfl
    · show ((T.heap.toList.drop T.heap.size).map (·.slots.size)).sum ≤ 0
      rw [List.drop_eq_nil_of_le (Nat.le_of_eq Array.length_toList)]
      exact Nat.le_refl _
/-- 'throw new E()': new; dup; invokespecial; athrow -/
theorem vx_throw0 {cc : ByteArray} {pc : Nat} (hexec : p.tables.exec = Jvm.exec) (hb : c.code = cc) (hl : l.stackTraces = false) {own cls : String} {names : List String} {ik ic mc ms : Nat} {A : Nat → Prop}
    (hown : s.vm.findClass own = some m.cls) (hcls : Bundle.fit cls = true) (hnames : ∀ n ∈ names, Bundle.fit n = true)
    (hk : (Cond.classLink own ik cls).before args s = true) (hini : (Cond.initialized cls).before args s = true) (hat : ∀ w ∈ vx_at0 own ic cls names, w.before args s = true)
    (hgood : ∀ w ∈ Cond.classLink own ik cls :: Cond.initialized cls :: vx_at0 own ic cls names, vx_ot w = true)
    (hU : vx_Zq Bundle.tN "UNASSIGNED_STACK" Bundle.steD A s s.heap) (hN : vx_Zq Bundle.tN "SUPPRESSED_SENTINEL" Bundle.listD A s s.heap) (hS : va_S A s.heap H locs) (hsize : ls.size = c.maxLocals)
    (d0 : decode cc pc = .ok (.new ik, 3)) (d3 : decode cc (pc + 3) = .ok (.dup, 1)) (d4 : decode cc (pc + 4) = .ok (.invokespecial ic, 3)) (d7 : decode cc (pc + 7) = .ok (.athrow, 1))
    (hout : ∀ x ∈ c.exceptionTable.toList, covers x (pc + 7) = false)
    (hRframes : names.length + 3 < R.frames) (hRlocals : (rest.map fun v => v.category).sum + (13 * (names.length + 1) + 42) ≤ R.locals) (hRcells : cells + 1 ≤ R.cells) (hRslots : slots + 6 ≤ R.slots) (hlocks : meth.locks = false)
    (hx : ∀ t : State, s.vm.Alike t.vm → H.size ≤ t.heap.size → (∀ q : Nat, q < H.size → t.heap[q]? = H[q]?) → XC cls s t)
    (hf : ∀ z ∈ locs, free z.base) (hc : cells + 1 ≤ mc) (hs : slots + 6 ≤ ms) :
    W p l e R s m args below meth c H locs cells slots (vx_MQ below Qc XC args s mc ms free) (F0 m pc ls rest) := by
  intro T hT X
  have htr : e.platform.stackTraces = false := (show e.platform.stackTraces = l.stackTraces by rw [X.admits.platform]).trans hl
  have Y := vx_rebase X (R' := { frames := R.frames, locals := R.locals, cells := 1, slots := 6 }) (Nat.le_refl _) (Nat.le_refl _) hRcells hRslots
  obtain ⟨s', hA⟩ : ∃ z, z = (T.setVm s.vm).setFrames (.invoking m args :: below) := ⟨_, rfl⟩
  rw [← hA] at Y
  have hvm : s'.vm = s.vm := by rw [hA]; rfl
  have hhp : s'.heap = H := by rw [hA]; exact hT
  have hW0 : s.WarmedH s'.vm := by rw [hvm]; exact State.WarmedH.refl s
  have hat' : ∀ w ∈ vx_at0 own ic cls names, w.before args s' = true := fun w hw => vx_ot_at hW0 hvm.symm (hgood w (List.mem_cons_of_mem _ (List.mem_cons_of_mem _ hw))) (hat w hw)
  have hk' : (Cond.classLink own ik cls).before args s' = true := vx_ot_at hW0 hvm.symm (hgood _ List.mem_cons_self) hk
  have hini' : (Cond.initialized cls).before args s' = true := vx_ot_at hW0 hvm.symm (hgood _ (List.mem_cons_of_mem _ List.mem_cons_self)) hini
  have hU' : vx_Zq Bundle.tN "UNASSIGNED_STACK" Bundle.steD A s' s'.heap := by rw [hhp]; exact vx_Zq.moved hW0.alike (hU.kept hS.2.1)
  have hN' : vx_Zq Bundle.tN "SUPPRESSED_SENTINEL" Bundle.listD A s' s'.heap := by rw [hhp]; exact vx_Zq.moved hW0.alike (hN.kept hS.2.1)
  have h : ∀ w ∈ Bundle.ownAtoms0 own ic cls names, w.before args s' = true := vx_own hat' (vx_isRefq hU'.1) (vx_isRefq hN'.1) hU'.2.word hN'.2.word
  have hown' : s'.vm.findClass own = some m.cls := by rw [hvm]; exact hown
  have hins : (Cond.instantiable cls 6).before args s' = true := h _ (by simp [Bundle.ownAtoms0])
  obtain ⟨vm₁, cX, kX, hfX, hkX, -, -, X₁, st1⟩ := Y.newCold hexec (own := own) (C := cls) (index := ik) (n := 6) hown' hk' hins hini'
    (g := F0 m pc ls rest) rfl (by rw [hb]; exact d0) (Nat.le_refl _) (Nat.le_refl _)
  generalize hT1 : (T.setVm vm₁).pushCell { cls := cX, slots := kX.instanceTypes.map defaultValue, vm := .none } = T1 at X₁ st1
  have hcat : (Value.ref T.heap.size).category = 1 := rfl
  have hcellA : T1.heap[T.heap.size]? = some (freshCell cX kX) := by rw [← hT1]; exact State.heap_pushCell_size _ _
  have d3' : decode c.code (pc + 3) = .ok (.dup, 1) := by rw [hb]; exact d3
  obtain ⟨U, hsteps, hrun, hend, hW, hsame, ce, hce, hO⟩ := X₁.ctorThrow0 hexec htr (own := own) (cls := cls) (names := names) (ic := ic) hown' hcls hnames h (fun x hx => nomatch hx) hfX hkX hcellA (by rw [hhp, hT]; exact Nat.le_refl _)
    (g := { method := m, pc := pc + 4, locals := ls, stack := .ref T.heap.size :: .ref T.heap.size :: rest, locked := none }) rfl hsize rfl rfl (rest := rest) rfl
    (by rw [hb]; exact d4) (by rw [hb]; exact d7) hout hRframes (by simp only [List.map_cons, List.sum_cons, hcat]; omega) hlocks
  obtain ⟨f1, f2⟩ := vx_frame hsame
  rw [hhp] at f1 f2
  have hWs : s.WarmedH U.vm := State.WarmedH.trans hW0 hW
  have hcl : s.vm.findClass cls = some ce.cls := by
    have h9 := hO.cls
    rw [hvm] at h9
    exact h9
  have hall : s.sameButNew ({ U with vm := s.vm } : State) locs mc ms := by
    subst hA
    obtain ⟨e1, e2⟩ := hsame
    rw [State.setFrames_setFrames] at e1
    have h2 : (T.setVm s.vm).sameButNew ({ U with vm := s.vm } : State) [] (0 + 1) (0 + 6) := ⟨e1, e2⟩
    have h3 := X.same.trans h2
    rw [List.append_nil] at h3
    exact h3.mono hc hs
  refine ⟨U, ?_, .threw T.heap.size, hrun, hend, Or.inr ⟨T.heap.size, rfl, cls, ce, locs, hx U hWs.alike f1 (fun q hq => f2 q hq (fun z hz => nomatch hz)), hce, hO.vm, hcl, hWs, hall, hf⟩⟩
  refine st1 _ ?_
  show Steps p.tables e below (T1.setTop { method := m, pc := pc + 3, locals := ls, stack := .ref T.heap.size :: rest, locked := none }) _
  jvm_step X₁.here [X₁.here.top, hexec, d3', Value.category]
  exact hsteps
/-- 'throw new E("text")': new; dup; ldc; invokespecial; athrow -/
theorem vx_throwS {cc : ByteArray} {pc : Nat} (hexec : p.tables.exec = Jvm.exec) (hb : c.code = cc) (hl : l.stackTraces = false) {own cls text : String} {names : List String} {ik is ic mc ms sa : Nat} {A : Nat → Prop}
    (hown : s.vm.findClass own = some m.cls) (hcls : Bundle.fit cls = true) (hnames : ∀ n ∈ names, Bundle.fit n = true)
    (hk : (Cond.classLink own ik cls).before args s = true) (hini : (Cond.initialized cls).before args s = true) (hstr : vk_R own is text sa s) (hat : ∀ w ∈ vx_atS own ic cls names, w.before args s = true)
    (hgood : ∀ w ∈ Cond.classLink own ik cls :: Cond.initialized cls :: vx_atS own ic cls names, vx_ot w = true)
    (hU : vx_Zq Bundle.tN "UNASSIGNED_STACK" Bundle.steD A s s.heap) (hN : vx_Zq Bundle.tN "SUPPRESSED_SENTINEL" Bundle.listD A s s.heap) (hS : va_S A s.heap H locs) (hsize : ls.size = c.maxLocals)
    (d0 : decode cc pc = .ok (.new ik, 3)) (d3 : decode cc (pc + 3) = .ok (.dup, 1)) (d4 : decode cc (pc + 4) = .ok (.ldc is, 2)) (d6 : decode cc (pc + 6) = .ok (.invokespecial ic, 3)) (d9 : decode cc (pc + 9) = .ok (.athrow, 1))
    (hout : ∀ x ∈ c.exceptionTable.toList, covers x (pc + 9) = false)
    (hRframes : names.length + 3 < R.frames) (hRlocals : (rest.map fun v => v.category).sum + (13 * (names.length + 1) + 43) ≤ R.locals) (hRcells : cells + 1 ≤ R.cells) (hRslots : slots + 6 ≤ R.slots) (hlocks : meth.locks = false)
    (hx : ∀ t : State, s.vm.Alike t.vm → H.size ≤ t.heap.size → (∀ q : Nat, q < H.size → t.heap[q]? = H[q]?) → XC cls s t)
    (hf : ∀ z ∈ locs, free z.base) (hc : cells + 1 ≤ mc) (hs : slots + 6 ≤ ms) :
    W p l e R s m args below meth c H locs cells slots (vx_MQ below Qc XC args s mc ms free) (F0 m pc ls rest) := by
  intro T hT X
  have htr : e.platform.stackTraces = false := (show e.platform.stackTraces = l.stackTraces by rw [X.admits.platform]).trans hl
  have Y := vx_rebase X (R' := { frames := R.frames, locals := R.locals, cells := 1, slots := 6 }) (Nat.le_refl _) (Nat.le_refl _) hRcells hRslots
  obtain ⟨s', hA⟩ : ∃ z, z = (T.setVm s.vm).setFrames (.invoking m args :: below) := ⟨_, rfl⟩
  rw [← hA] at Y
  have hvm : s'.vm = s.vm := by rw [hA]; rfl
  have hhp : s'.heap = H := by rw [hA]; exact hT
  have hW0 : s.WarmedH s'.vm := by rw [hvm]; exact State.WarmedH.refl s
  have hat' : ∀ w ∈ vx_atS own ic cls names, w.before args s' = true := fun w hw => vx_ot_at hW0 hvm.symm (hgood w (List.mem_cons_of_mem _ (List.mem_cons_of_mem _ hw))) (hat w hw)
  have hk' : (Cond.classLink own ik cls).before args s' = true := vx_ot_at hW0 hvm.symm (hgood _ List.mem_cons_self) hk
  have hini' : (Cond.initialized cls).before args s' = true := vx_ot_at hW0 hvm.symm (hgood _ (List.mem_cons_of_mem _ List.mem_cons_self)) hini
  have hU' : vx_Zq Bundle.tN "UNASSIGNED_STACK" Bundle.steD A s' s'.heap := by rw [hhp]; exact vx_Zq.moved hW0.alike (hU.kept hS.2.1)
  have hN' : vx_Zq Bundle.tN "SUPPRESSED_SENTINEL" Bundle.listD A s' s'.heap := by rw [hhp]; exact vx_Zq.moved hW0.alike (hN.kept hS.2.1)
  have h : ∀ w ∈ Bundle.ownAtoms own ic cls names, w.before args s' = true := vx_own hat' (vx_isRefq hU'.1) (vx_isRefq hN'.1) hU'.2.word hN'.2.word
  have hown' : s'.vm.findClass own = some m.cls := by rw [hvm]; exact hown
  have hins : (Cond.instantiable cls 6).before args s' = true := h _ (by simp [Bundle.ownAtoms])
  obtain ⟨vm₁, cX, kX, hfX, hkX, -, -, X₁, st1⟩ := Y.newCold hexec (own := own) (C := cls) (index := ik) (n := 6) hown' hk' hins hini'
    (g := F0 m pc ls rest) rfl (by rw [hb]; exact d0) (Nat.le_refl _) (Nat.le_refl _)
  generalize hT1 : (T.setVm vm₁).pushCell { cls := cX, slots := kX.instanceTypes.map defaultValue, vm := .none } = T1 at X₁ st1
  have hcat : (Value.ref T.heap.size).category = 1 := rfl
  have hcellA : T1.heap[T.heap.size]? = some (freshCell cX kX) := by rw [← hT1]; exact State.heap_pushCell_size _ _
  have d3' : decode c.code (pc + 3) = .ok (.dup, 1) := by rw [hb]; exact d3
  have d4' : decode c.code (pc + 4) = .ok (.ldc is, 2) := by rw [hb]; exact d4
  have hstr' : vk_R own is text sa s' := vk_R.warm hW0 hstr
  obtain ⟨U, hsteps, hrun, hend, hW, hsame, ce, hce, hO⟩ := X₁.ctorThrowS hexec htr (own := own) (cls := cls) (names := names) (ic := ic) hown' hcls hnames h (fun x hx => nomatch hx) hfX hkX hcellA (by rw [hhp, hT]; exact Nat.le_refl _) (msg := .ref sa) rfl
    (g := { method := m, pc := pc + 6, locals := ls, stack := .ref sa :: .ref T.heap.size :: .ref T.heap.size :: rest, locked := none }) rfl hsize rfl rfl (rest := rest) rfl
    (by rw [hb]; exact d6) (by rw [hb]; exact d9) hout hRframes (by simp only [List.map_cons, List.sum_cons, hcat]; omega) hlocks
  obtain ⟨f1, f2⟩ := vx_frame hsame
  rw [hhp] at f1 f2
  have hWs : s.WarmedH U.vm := State.WarmedH.trans hW0 hW
  have hcl : s.vm.findClass cls = some ce.cls := by
    have h9 := hO.cls
    rw [hvm] at h9
    exact h9
  have hall : s.sameButNew ({ U with vm := s.vm } : State) locs mc ms := by
    subst hA
    obtain ⟨e1, e2⟩ := hsame
    rw [State.setFrames_setFrames] at e1
    have h2 : (T.setVm s.vm).sameButNew ({ U with vm := s.vm } : State) [] (0 + 1) (0 + 6) := ⟨e1, e2⟩
    have h3 := X.same.trans h2
    rw [List.append_nil] at h3
    exact h3.mono hc hs
  refine ⟨U, ?_, .threw T.heap.size, hrun, hend, Or.inr ⟨T.heap.size, rfl, cls, ce, locs, hx U hWs.alike f1 (fun q hq => f2 q hq (fun z hz => nomatch hz)), hce, hO.vm, hcl, hWs, hall, hf⟩⟩
  refine st1 _ ?_
  show Steps p.tables e below (T1.setTop { method := m, pc := pc + 3, locals := ls, stack := .ref T.heap.size :: rest, locked := none }) _
  jvm_step X₁.here [X₁.here.top, hexec, d3', Value.category]
  exact X₁.ldcString hexec (own := own) (text := text) (index := is) (a := sa) hown' hstr'.1 hstr'.2
    (g := { method := m, pc := pc + 4, locals := ls, stack := .ref T.heap.size :: .ref T.heap.size :: rest, locked := none }) rfl d4' _ hsteps
/-- 'throw new E("text")', the text by a wide index -/
theorem vx_throwSW {cc : ByteArray} {pc : Nat} (hexec : p.tables.exec = Jvm.exec) (hb : c.code = cc) (hl : l.stackTraces = false) {own cls text : String} {names : List String} {ik is ic mc ms sa : Nat} {A : Nat → Prop}
    (hown : s.vm.findClass own = some m.cls) (hcls : Bundle.fit cls = true) (hnames : ∀ n ∈ names, Bundle.fit n = true)
    (hk : (Cond.classLink own ik cls).before args s = true) (hini : (Cond.initialized cls).before args s = true) (hstr : vk_R own is text sa s) (hat : ∀ w ∈ vx_atS own ic cls names, w.before args s = true)
    (hgood : ∀ w ∈ Cond.classLink own ik cls :: Cond.initialized cls :: vx_atS own ic cls names, vx_ot w = true)
    (hU : vx_Zq Bundle.tN "UNASSIGNED_STACK" Bundle.steD A s s.heap) (hN : vx_Zq Bundle.tN "SUPPRESSED_SENTINEL" Bundle.listD A s s.heap) (hS : va_S A s.heap H locs) (hsize : ls.size = c.maxLocals)
    (d0 : decode cc pc = .ok (.new ik, 3)) (d3 : decode cc (pc + 3) = .ok (.dup, 1)) (d4 : decode cc (pc + 4) = .ok (.ldc_w is, 3)) (d7 : decode cc (pc + 7) = .ok (.invokespecial ic, 3)) (d10 : decode cc (pc + 10) = .ok (.athrow, 1))
    (hout : ∀ x ∈ c.exceptionTable.toList, covers x (pc + 10) = false)
    (hRframes : names.length + 3 < R.frames) (hRlocals : (rest.map fun v => v.category).sum + (13 * (names.length + 1) + 43) ≤ R.locals) (hRcells : cells + 1 ≤ R.cells) (hRslots : slots + 6 ≤ R.slots) (hlocks : meth.locks = false)
    (hx : ∀ t : State, s.vm.Alike t.vm → H.size ≤ t.heap.size → (∀ q : Nat, q < H.size → t.heap[q]? = H[q]?) → XC cls s t)
    (hf : ∀ z ∈ locs, free z.base) (hc : cells + 1 ≤ mc) (hs : slots + 6 ≤ ms) :
    W p l e R s m args below meth c H locs cells slots (vx_MQ below Qc XC args s mc ms free) (F0 m pc ls rest) := by
  intro T hT X
  have htr : e.platform.stackTraces = false := (show e.platform.stackTraces = l.stackTraces by rw [X.admits.platform]).trans hl
  have Y := vx_rebase X (R' := { frames := R.frames, locals := R.locals, cells := 1, slots := 6 }) (Nat.le_refl _) (Nat.le_refl _) hRcells hRslots
  obtain ⟨s', hA⟩ : ∃ z, z = (T.setVm s.vm).setFrames (.invoking m args :: below) := ⟨_, rfl⟩
  rw [← hA] at Y
  have hvm : s'.vm = s.vm := by rw [hA]; rfl
  have hhp : s'.heap = H := by rw [hA]; exact hT
  have hW0 : s.WarmedH s'.vm := by rw [hvm]; exact State.WarmedH.refl s
  have hat' : ∀ w ∈ vx_atS own ic cls names, w.before args s' = true := fun w hw => vx_ot_at hW0 hvm.symm (hgood w (List.mem_cons_of_mem _ (List.mem_cons_of_mem _ hw))) (hat w hw)
  have hk' : (Cond.classLink own ik cls).before args s' = true := vx_ot_at hW0 hvm.symm (hgood _ List.mem_cons_self) hk
  have hini' : (Cond.initialized cls).before args s' = true := vx_ot_at hW0 hvm.symm (hgood _ (List.mem_cons_of_mem _ List.mem_cons_self)) hini
  have hU' : vx_Zq Bundle.tN "UNASSIGNED_STACK" Bundle.steD A s' s'.heap := by rw [hhp]; exact vx_Zq.moved hW0.alike (hU.kept hS.2.1)
  have hN' : vx_Zq Bundle.tN "SUPPRESSED_SENTINEL" Bundle.listD A s' s'.heap := by rw [hhp]; exact vx_Zq.moved hW0.alike (hN.kept hS.2.1)
  have h : ∀ w ∈ Bundle.ownAtoms own ic cls names, w.before args s' = true := vx_own hat' (vx_isRefq hU'.1) (vx_isRefq hN'.1) hU'.2.word hN'.2.word
  have hown' : s'.vm.findClass own = some m.cls := by rw [hvm]; exact hown
  have hins : (Cond.instantiable cls 6).before args s' = true := h _ (by simp [Bundle.ownAtoms])
  obtain ⟨vm₁, cX, kX, hfX, hkX, -, -, X₁, st1⟩ := Y.newCold hexec (own := own) (C := cls) (index := ik) (n := 6) hown' hk' hins hini'
    (g := F0 m pc ls rest) rfl (by rw [hb]; exact d0) (Nat.le_refl _) (Nat.le_refl _)
  generalize hT1 : (T.setVm vm₁).pushCell { cls := cX, slots := kX.instanceTypes.map defaultValue, vm := .none } = T1 at X₁ st1
  have hcat : (Value.ref T.heap.size).category = 1 := rfl
  have hcellA : T1.heap[T.heap.size]? = some (freshCell cX kX) := by rw [← hT1]; exact State.heap_pushCell_size _ _
  have d3' : decode c.code (pc + 3) = .ok (.dup, 1) := by rw [hb]; exact d3
  have d4' : decode c.code (pc + 4) = .ok (.ldc_w is, 3) := by rw [hb]; exact d4
  have hstr' : vk_R own is text sa s' := vk_R.warm hW0 hstr
  obtain ⟨U, hsteps, hrun, hend, hW, hsame, ce, hce, hO⟩ := X₁.ctorThrowS hexec htr (own := own) (cls := cls) (names := names) (ic := ic) hown' hcls hnames h (fun x hx => nomatch hx) hfX hkX hcellA (by rw [hhp, hT]; exact Nat.le_refl _) (msg := .ref sa) rfl
    (g := { method := m, pc := pc + 7, locals := ls, stack := .ref sa :: .ref T.heap.size :: .ref T.heap.size :: rest, locked := none }) rfl hsize rfl rfl (rest := rest) rfl
    (by rw [hb]; exact d7) (by rw [hb]; exact d10) hout hRframes (by simp only [List.map_cons, List.sum_cons, hcat]; omega) hlocks
  obtain ⟨f1, f2⟩ := vx_frame hsame
  rw [hhp] at f1 f2
  have hWs : s.WarmedH U.vm := State.WarmedH.trans hW0 hW
  have hcl : s.vm.findClass cls = some ce.cls := by
    have h9 := hO.cls
    rw [hvm] at h9
    exact h9
  have hall : s.sameButNew ({ U with vm := s.vm } : State) locs mc ms := by
    subst hA
    obtain ⟨e1, e2⟩ := hsame
    rw [State.setFrames_setFrames] at e1
    have h2 : (T.setVm s.vm).sameButNew ({ U with vm := s.vm } : State) [] (0 + 1) (0 + 6) := ⟨e1, e2⟩
    have h3 := X.same.trans h2
    rw [List.append_nil] at h3
    exact h3.mono hc hs
  refine ⟨U, ?_, .threw T.heap.size, hrun, hend, Or.inr ⟨T.heap.size, rfl, cls, ce, locs, hx U hWs.alike f1 (fun q hq => f2 q hq (fun z hz => nomatch hz)), hce, hO.vm, hcl, hWs, hall, hf⟩⟩
  refine st1 _ ?_
  show Steps p.tables e below (T1.setTop { method := m, pc := pc + 3, locals := ls, stack := .ref T.heap.size :: rest, locked := none }) _
  jvm_step X₁.here [X₁.here.top, hexec, d3', Value.category]
  exact X₁.ldcStringW hexec (own := own) (text := text) (index := is) (a := sa) hown' hstr'.1 hstr'.2
    (g := { method := m, pc := pc + 4, locals := ls, stack := .ref T.heap.size :: .ref T.heap.size :: rest, locked := none }) rfl d4' _ hsteps
end Ends
section Bodies
variable {l : Launch}
theorem vx_ofW {y : MethodName} {ws ws' : List Cond} {rm : Room} {Pc : Array Value → State → Prop} {Qc : Array Value → State → Outcome → State → Prop} {XC : String → State → State → Prop} {mc ms : Nat} {free : Addr → Prop} {cc : ByteArray} {maxL : Nat} {ret : Option FieldType}
    (hy : plainName y.cls = true) (hw : ws = Cond.code y cc maxL ret :: ws')
    (body : ∀ p e s m args below meth c s₁, BodyLoose p l y (headSpec ws rm) cc maxL ret e s m args below meth c s₁ → c.maxLocals = maxL → (∀ x ∈ c.exceptionTable.toList, False) → Pc args s →
      W p l e (headSpec ws rm).room s m args below meth c s.heap [] 0 0 (vx_MQ below Qc XC args s mc ms free) (entryFrame m args maxL)) : vx_Met l y ws rm Pc Qc XC mc ms free := by
  refine MetFree.of_bodyS (code := cc) (maxLocals := maxL) (ret := ret) hy ?_ ?_
  · intro args s m h hn
    obtain ⟨meth, c, h1, h2, h3, h4, h5, h6, -, -⟩ := Cond.code_spec hn (atoms_spec (ws := ws) h _ (by rw [hw]; exact List.mem_cons_self))
    exact ⟨meth, c, h1, h2, h3, h4, h5, h6⟩
  · intro p e s m args below meth c s₁ B hml hP _
    have hh0 : s₁.heap = s.heap := by rw [B.state]; rfl
    have ht : ∀ x ∈ c.exceptionTable.toList, False := by
      obtain ⟨meth9, c9, h1, h2, -, -, -, -, h7, -⟩ := Cond.code_spec B.named (atoms_spec (ws := ws) B.pre _ (by rw [hw]; exact List.mem_cons_self))
      cases Option.some.inj (h1.symm.trans B.method)
      cases Option.some.inj (h2.symm.trans (Stand.of_body B).code)
      intro x hx
      rw [Array.isEmpty_iff.mp h7] at hx
      cases hx
    obtain ⟨t, a1, o, b1, b2, b3⟩ := body p e s m args below meth c s₁ B hml ht hP s₁ hh0 (Stand.of_body B)
    exact ⟨t, o, a1, b1, b2, b3⟩
/-- the table of a body with handlers -/
theorem vx_table {p : Program} {x y : MethodName} {S : Spec} {cc bytes : ByteArray} {maxL maxL' : Nat} {ret ret' : Option FieldType} {e : Env} {s s₁ : State} {m : MethodId} {args : Array Value} {below : List Frame} {meth : Method} {c : Code} {hh : List (Nat × Nat × Nat × Nat)}
    (B : BodyLoose p l y S cc maxL ret e s m args below meth c s₁) (h : (Cond.codeWith y bytes maxL' ret' hh).before args s = true) : c.exceptionTable.toList = tableOf hh := by
  obtain ⟨m9, meth9, c9, hn9, h1, h2, -, -, h6, -⟩ := Cond.codeWith_spec h
  cases Option.some.inj (hn9.symm.trans B.named)
  cases Option.some.inj (h1.symm.trans B.method)
  cases Option.some.inj (h2.symm.trans (Stand.of_body B).code)
  rw [← h6, table_eq]
end Bodies
end VXA
/-! ===== END ===== -/
/-! ===== BEGIN a static call of a method with an exception table ===== -/
section VXS
variable {p : Program} {l : Launch} {e : Env} {R : Room} {s : State} {m : MethodId} {args : Array Value} {below : List Frame} {meth : Method} {c : Code} {T : State} {H : Heap} {locs : List Loc} {cells slots : Nat}
abbrev vx_CSW (R : Room) (s : State) (args : Array Value) (own : String) (index : Nat) (y : MethodName) (bytes : ByteArray) (maxL : Nat) (ret : Option FieldType) (hh : List (Nat × Nat × Nat × Nat)) (ws : List Cond) (rm : Room) (mc ms n : Nat) : Prop :=
  (rm.cells = mc ∧ rm.slots = ms ∧ rm.frames + 1 ≤ R.frames ∧ 8 + (maxL + 11) + rm.locals ≤ R.locals ∧ (∀ w ∈ ws, ∀ (a' : Array Value) (U : State), s.WarmedH U.vm → w.before a' U = true) ∧ Cond.codeWith y bytes maxL ret hh ∈ ws) ∧
  (Cond.codeWith y bytes maxL ret hh).before args s = true ∧ (Cond.initialized y.cls).before args s = true ∧ (y.cls ≠ "java/lang/invoke/MethodHandle" ∧ y.cls ≠ "java/lang/invoke/VarHandle") ∧
  (∀ sig, parseMethodDescriptor y.desc = some sig → n = sig.parameters.length) ∧ (Cond.methodLink own index y).before args s = true ∧ (Cond.static y).before args s = true
theorem vx_cwSW {own : String} {index maxL mc ms : Nat} {y : MethodName} {bytes : ByteArray} {ret : Option FieldType} {hh : List (Nat × Nat × Nat × Nat)} {Ts ws ws' : List Cond} {rm : Room} (n : Nat) (ht : ∀ w ∈ Ts, w.before args s = true) (hT : GoodIn Ts (va_wsS own index y ws)) (hw : ws = Cond.codeWith y bytes maxL ret hh :: ws') (hrc : rm.cells = mc) (hrs : rm.slots = ms)
    (hd : y.cls ≠ "java/lang/invoke/MethodHandle" ∧ y.cls ≠ "java/lang/invoke/VarHandle" ∧ (parseMethodDescriptor y.desc).map (fun d => d.parameters.length) = some n) (hR : rm.frames + 1 ≤ R.frames ∧ 8 + (maxL + 11) + rm.locals ≤ R.locals) :
    vx_CSW R s args own index y bytes maxL ret hh ws rm mc ms n := by
  have ok : ∀ w ∈ va_wsS own index y ws, w.before args s = true := fun w h => ht w (hT w h).1
  have hG : GoodIn Ts ws := fun w h => hT w (by unfold va_wsS; exact List.mem_append_right _ h)
  have hc : Cond.codeWith y bytes maxL ret hh ∈ ws := by rw [hw]; exact List.mem_cons_self
  refine ⟨⟨hrc, hrs, hR.1, hR.2, pay_in ht hG, hc⟩, ht _ (hG _ hc).1, ok _ (by simp [va_wsS]), ⟨hd.1, hd.2.1⟩, fun sig h => ?_, ok _ (by simp [va_wsS]), ok _ (by simp [va_wsS])⟩
  have h2 := hd.2.2
  rw [h] at h2
  exact (Option.some.inj h2).symm
theorem vx_callSW (X : Stand p l e R s m args below meth c T locs cells slots) (hexec : p.tables.exec = Jvm.exec) {own : String} {index : Nat} {y : MethodName} {bytes : ByteArray} {maxL : Nat} {ret : Option FieldType} {hh : List (Nat × Nat × Nat × Nat)}
    (hown : s.vm.findClass own = some m.cls) (hlink : (Cond.methodLink own index y).before args s = true) (hstat : (Cond.static y).before args s = true) (hinit : (Cond.initialized y.cls).before args s = true)
    (hcode : (Cond.codeWith y bytes maxL ret hh).before args s = true) (hy : y.cls ≠ "java/lang/invoke/MethodHandle" ∧ y.cls ≠ "java/lang/invoke/VarHandle")
    {W9 : Nat} {Pre : Pt → Array Value → Prop} {Post : Pt → Array Value → Option Value → Pt → Prop} (hK : Back l R p e below s args y 3 W9 Pre Post)
    {g : JFrame} (hg : g.method = m) (hsize : g.locals.size = c.maxLocals) {argsL rest : List Value} (hlen : ∀ sig, parseMethodDescriptor y.desc = some sig → argsL.length = sig.parameters.length)
    (hstack : g.stack = argsL.reverse ++ rest) (hW : 2 * g.monitorRoom + (rest.map fun v => v.category).sum ≤ W9) (hdg : decode c.code g.pc = .ok (.invokestatic index, 3))
    (hpre : ∀ vm₁, s.WarmedH vm₁ → Pre ⟨T.setVm vm₁, locs, cells, slots⟩ argsL.toArray) :
    ∃ (v : Option Value) (vm₁ : Vm) (B : Pt), s.WarmedH vm₁ ∧ Stand p l e R s m args below meth c B.U B.locs B.cells B.slots ∧ Post ⟨T.setVm vm₁, locs, cells, slots⟩ argsL.toArray v B ∧
      ∀ target, Steps p.tables e below (B.U.setTop { g with pc := g.pc + 3, stack := v.toList ++ rest }) target → Steps p.tables e below (T.setTop g) target := by
  obtain ⟨mk, methM, cM, hnamed, hmethM, -, -, -, -, -, -, hsigM⟩ := Cond.codeWith_spec hcode
  have hstatic : methM.isStatic = true := Cond.static_spec hnamed hmethM hstat
  obtain ⟨kP, hkP, -⟩ := className_of_methodNamed hnamed
  have hinitP : kP.init = .initialized := Cond.initialized_spec (findClass_of_methodNamed hnamed) hkP hinit
  obtain ⟨vm₁, X₁, hstep₁⟩ := X.invokestatic hexec hown hlink hnamed hmethM hstatic hkP hinitP hy (g := g) hg (argsL := argsL) (rest := rest) (hlen _ hsigM) hstack hdg
  obtain ⟨v, B, X', hpost, hsteps⟩ := hK m meth c ⟨T.setVm vm₁, locs, cells, slots⟩ { g with stack := rest } (.invokestatic index) mk argsL.toArray X₁ hg hsize hdg hW (X₁.named hnamed) (hpre vm₁ X₁.warmed)
  exact ⟨v, vm₁, B, X₁.warmed, X', hpost, fun target h => hstep₁ _ fun acts => by rw [doInvoke_state]; exact hsteps.trans h⟩
theorem vx_runSW {y : MethodName} {bytes cc : ByteArray} {maxL nL mc ms n index : Nat} {ret : Option FieldType} {hh : List (Nat × Nat × Nat × Nat)} {ws : List Cond} {rm : Room} {Pc : Array Value → State → Prop} {Qc : Array Value → State → Outcome → State → Prop} {free : Addr → Prop} {Ts : List Cond} {own : String} {As rest : List Value} {g : JFrame}
    (S : CallFix p m c cc nL s args Ts own) (hM : Met l y ws rm Pc Qc mc ms free) (cw : vx_CSW R s args own index y bytes maxL ret hh ws rm mc ms n) (hp : PreS s H Pc As)
    (hg : g.method = m) (hn : As.length = n) (hsize : g.locals.size = nL) (hstack : g.stack = As.reverse ++ rest) (hW : 2 * g.monitorRoom + (rest.map fun v => v.category).sum ≤ 8) (hdg : decode cc g.pc = .ok (.invokestatic index, 3)) (hf : cells + mc ≤ R.cells ∧ slots + ms ≤ R.slots) :
    va_Run p l e R s m args below meth c H locs cells slots mc ms g rest (Qc As.toArray) (free) := by
  obtain ⟨⟨hrc, hrs, hfr, hlo, hws, hcw⟩, hcode, hini, hy, hlen, hl, hstt⟩ := cw
  have hK : Back l R p e below s args y 3 8 (PreOf R mc ms Pc) (PostOf Qc mc ms free) := va_backW (hh := hh) (bytes := bytes) (maxL := maxL) (ret := ret) hM hp.1 hrc hrs hfr hlo hws hcw (fun a' U hW => word_at hW (Or.inl (by first | rfl | simp [Cond.onTables, Cond.keeps, Cond.steady])) hini)
  obtain ⟨hx, hb, hml, ho, -⟩ := S
  intro T hT X
  obtain ⟨v, vm₁, ⟨U', l2, c2, s2⟩, hW₁, X', ⟨g', mk, t, L, e1, e2, hq, h1, hL, h2, h3⟩, st⟩ := vx_callSW X hx (hh := hh) (bytes := bytes) (maxL := maxL) (ret := ret) ho hl hstt hini hcode hy hK hg (hsize.trans hml.symm) (argsL := As) (rest := rest) (fun sig h => hn.trans (hlen sig h)) hstack hW (by rw [hb]; exact hdg)
    (fun vm₁ hW₁ => ⟨hf.1, hf.2, hp.2 (T.setVm vm₁) hT hW₁⟩)
  dsimp only [Pt.U, Pt.locs, Pt.cells, Pt.slots] at X' e1 e2 h1 h2 h3 st
  subst h1; subst h2; subst h3
  exact ⟨v, (T.setVm vm₁).calling g' mk As.toArray, t, U', L, hT, X', hL, e1, e2, hq, st⟩
/-- a thing of a world lies in the heap -/
theorem vx_lt {D : va_G} {cl : List vw_C} {ws : va_W} {H1 : Heap} (h : va_P D cl ws H1) {k : Nat} {q : Nat × va_E} (hk : ws[k]? = some q) : q.1 < H1.size := (h k q hk).lt
end VXS
/-! ===== END ===== -/
end
section
def RX0 : String := "BlueCoats$Chest"
def TX0 : u_T := fun k => match k with
  | 0 => ("BlueCoats$Chest", "need", "[I", true)
  | 1 => ("BlueCoats$Chest", "toEnd", "[I", true)
  | 2 => ("BlueCoats$Chest", "fromLegacy", "[I", true)
  | 3 => ("BlueCoats$Chest", "number", "I", false)
  | 4 => ("BlueCoats$Chest", "shortfall", "I", false)
  | 5 => ("BlueCoats$Chest", "proof", "I", false)
  | 6 => ("BlueCoats$Chest", "coins", "[I", true)
  | 7 => ("BlueCoats$Chest", "ends", "[I", true)
  | _ => ("BlueCoats$Chest", "lack", "[I", true)
def tyX0 : Nat → FieldType := fun k => match k with
  | 0 => .array .int
  | 1 => .array .int
  | 2 => .array .int
  | 3 => .int
  | 4 => .int
  | 5 => .int
  | 6 => .array .int
  | 7 => .array .int
  | _ => .array .int
abbrev wsX00 : List Cond := u_ws RX0 TX0 9
theorem nmX0 : ∀ a, a < 9 → ∀ b, b < 9 → a ≠ b → (TX0 a).2.1 ≠ (TX0 b).2.1 := by decide +kernel
theorem tyX0_ok : ∀ k, k < 9 → parseFieldDescriptor (TX0 k).2.2.1 = some (tyX0 k) := by decide +kernel
abbrev cX0_init : ByteArray := prog_2_method_1_code
def yX0_init : MethodName := ⟨RX0, "<init>", "()V"⟩
abbrev cX0_add : ByteArray := prog_2_method_2_code
def yX0_add : MethodName := ⟨RX0, "add", "(II)I"⟩
abbrev cX0_plan : ByteArray := prog_2_method_3_code
def yX0_plan : MethodName := ⟨RX0, "plan", "()V"⟩
abbrev cX0_planEnds : ByteArray := prog_2_method_4_code
def yX0_planEnds : MethodName := ⟨RX0, "planEnds", "()V"⟩
abbrev cX0_planLegacies : ByteArray := prog_2_method_5_code
def yX0_planLegacies : MethodName := ⟨RX0, "planLegacies", "()V"⟩
abbrev cX0_setLack : ByteArray := prog_2_method_6_code
def yX0_setLack : MethodName := ⟨RX0, "setLack", "([I)V"⟩
abbrev cX0_lessenLack : ByteArray := prog_2_method_7_code
def yX0_lessenLack : MethodName := ⟨RX0, "lessenLack", "(I)V"⟩
abbrev cX0_greatestLack : ByteArray := prog_2_method_8_code
def yX0_greatestLack : MethodName := ⟨RX0, "greatestLack", "()I"⟩
abbrev cX0_payPlanned : ByteArray := prog_2_method_9_code
def yX0_payPlanned : MethodName := ⟨RX0, "payPlanned", "()I"⟩
def RX1 : String := "BlueCoats$Children"
def TX1 : u_T := fun k => match k with
  | 0 => ("BlueCoats$Children", "age", "[I", true)
  | 1 => ("BlueCoats$Children", "need", "[I", true)
  | 2 => ("BlueCoats$Children", "size", "[I", true)
  | 3 => ("BlueCoats$Children", "growth", "[I", true)
  | 4 => ("BlueCoats$Children", "state", "[I", true)
  | 5 => ("BlueCoats$Children", "coat", "[I", true)
  | _ => ("BlueCoats$Children", "number", "I", false)
def tyX1 : Nat → FieldType := fun k => match k with
  | 0 => .array .int
  | 1 => .array .int
  | 2 => .array .int
  | 3 => .array .int
  | 4 => .array .int
  | 5 => .array .int
  | _ => .int
abbrev wsX10 : List Cond := u_ws RX1 TX1 7
theorem nmX1 : ∀ a, a < 7 → ∀ b, b < 7 → a ≠ b → (TX1 a).2.1 ≠ (TX1 b).2.1 := by decide +kernel
theorem tyX1_ok : ∀ k, k < 7 → parseFieldDescriptor (TX1 k).2.2.1 = some (tyX1 k) := by decide +kernel
abbrev cX1_init : ByteArray := prog_3_method_1_code
def yX1_init : MethodName := ⟨RX1, "<init>", "()V"⟩
abbrev cX1_has : ByteArray := prog_3_method_2_code
def yX1_has : MethodName := ⟨RX1, "has", "(I)Z"⟩
abbrev cX1_add : ByteArray := prog_3_method_3_code
def yX1_add : MethodName := ⟨RX1, "add", "(IIII)I"⟩
abbrev cX1_canBe : ByteArray := prog_3_method_4_code
def yX1_canBe : MethodName := ⟨RX1, "canBe", "(IIII)Z"⟩
abbrev cX1_in : ByteArray := prog_3_method_5_code
def yX1_in : MethodName := ⟨RX1, "in", "()I"⟩
abbrev cX1_grow : ByteArray := prog_3_method_6_code
def yX1_grow : MethodName := ⟨RX1, "grow", "(I)V"⟩
def RX2 : String := "BlueCoats$Dressing"
def TX2 : u_T := fun k => match k with
  | 0 => ("BlueCoats$Dressing", "guest", "[I", true)
  | 1 => ("BlueCoats$Dressing", "given", "[I", true)
  | 2 => ("BlueCoats$Dressing", "guests", "I", false)
  | 3 => ("BlueCoats$Dressing", "size", "[I", true)
  | 4 => ("BlueCoats$Dressing", "fitting", "[J", true)
  | _ => ("BlueCoats$Dressing", "dressed", "I", false)
def tyX2 : Nat → FieldType := fun k => match k with
  | 0 => .array .int
  | 1 => .array .int
  | 2 => .int
  | 3 => .array .int
  | 4 => .array .long
  | _ => .int
abbrev wsX20 : List Cond := u_ws RX2 TX2 6
theorem nmX2 : ∀ a, a < 6 → ∀ b, b < 6 → a ≠ b → (TX2 a).2.1 ≠ (TX2 b).2.1 := by decide +kernel
theorem tyX2_ok : ∀ k, k < 6 → parseFieldDescriptor (TX2 k).2.2.1 = some (tyX2 k) := by decide +kernel
abbrev cX2_init : ByteArray := prog_4_method_1_code
def yX2_init : MethodName := ⟨RX2, "<init>", "()V"⟩
abbrev cX2_plan : ByteArray := prog_4_method_2_code
def yX2_plan : MethodName := ⟨RX2, "plan", "(LBlueCoats$Children;LBlueCoats$Wardrobe;I)V"⟩
abbrev cX2_newCoats : ByteArray := prog_4_method_3_code
def yX2_newCoats : MethodName := ⟨RX2, "newCoats", "()I"⟩
abbrev cX2_gather : ByteArray := prog_4_method_4_code
def yX2_gather : MethodName := ⟨RX2, "gather", "(LBlueCoats$Children;)V"⟩
abbrev cX2_measure : ByteArray := prog_4_method_5_code
def yX2_measure : MethodName := ⟨RX2, "measure", "(LBlueCoats$Wardrobe;I)V"⟩
abbrev cX2_chooseDressed : ByteArray := prog_4_method_6_code
def yX2_chooseDressed : MethodName := ⟨RX2, "chooseDressed", "()V"⟩
abbrev cX2_greatestBut : ByteArray := prog_4_method_7_code
def yX2_greatestBut : MethodName := ⟨RX2, "greatestBut", "(I)I"⟩
abbrev cX2_canDress : ByteArray := prog_4_method_8_code
def yX2_canDress : MethodName := ⟨RX2, "canDress", "(I)Z"⟩
abbrev cX2_chooseCoats : ByteArray := prog_4_method_9_code
def yX2_chooseCoats : MethodName := ⟨RX2, "chooseCoats", "()V"⟩
abbrev cX2_neededBy : ByteArray := prog_4_method_10_code
def yX2_neededBy : MethodName := ⟨RX2, "neededBy", "(IJ)J"⟩
abbrev cX2_leastOf : ByteArray := prog_4_method_11_code
def yX2_leastOf : MethodName := ⟨RX2, "leastOf", "(J)I"⟩
def RX3 : String := "BlueCoats$Givers"
def TX3 : u_T := fun k => match k with
  | 0 => ("BlueCoats$Givers", "gave", "[I", true)
  | 1 => ("BlueCoats$Givers", "supported", "[I", true)
  | 2 => ("BlueCoats$Givers", "number", "I", false)
  | _ => ("BlueCoats$Givers", "next", "I", false)
def tyX3 : Nat → FieldType := fun k => match k with
  | 0 => .array .int
  | 1 => .array .int
  | 2 => .int
  | _ => .int
abbrev wsX30 : List Cond := u_ws RX3 TX3 4
theorem nmX3 : ∀ a, a < 4 → ∀ b, b < 4 → a ≠ b → (TX3 a).2.1 ≠ (TX3 b).2.1 := by decide +kernel
theorem tyX3_ok : ∀ k, k < 4 → parseFieldDescriptor (TX3 k).2.2.1 = some (tyX3 k) := by decide +kernel
abbrev cX3_init : ByteArray := prog_5_method_1_code
def yX3_init : MethodName := ⟨RX3, "<init>", "()V"⟩
abbrev cX3_has : ByteArray := prog_5_method_2_code
def yX3_has : MethodName := ⟨RX3, "has", "(I)Z"⟩
abbrev cX3_add : ByteArray := prog_5_method_3_code
def yX3_add : MethodName := ⟨RX3, "add", "()I"⟩
abbrev cX3_take : ByteArray := prog_5_method_4_code
def yX3_take : MethodName := ⟨RX3, "take", "(II)I"⟩
abbrev cX3_childOf : ByteArray := prog_5_method_5_code
def yX3_childOf : MethodName := ⟨RX3, "childOf", "(I)I"⟩
abbrev cX3_votesFor : ByteArray := prog_5_method_6_code
def yX3_votesFor : MethodName := ⟨RX3, "votesFor", "(II)I"⟩
def RX4 : String := "BlueCoats$Reader"
def TX4 : u_T := fun k => match k with
  | 0 => ("BlueCoats$Reader", "draft", "LBlueCoats$Statutes;", true)
  | 1 => ("BlueCoats$Reader", "fault", "I", false)
  | 2 => ("BlueCoats$Reader", "faultPlace", "I", false)
  | 3 => ("BlueCoats$Reader", "taped", "I", false)
  | 4 => ("BlueCoats$Reader", "tape", "[B", true)
  | 5 => ("BlueCoats$Reader", "length", "I", false)
  | 6 => ("BlueCoats$Reader", "kind", "I", false)
  | 7 => ("BlueCoats$Reader", "start", "I", false)
  | 8 => ("BlueCoats$Reader", "end", "I", false)
  | 9 => ("BlueCoats$Reader", "value", "I", false)
  | _ => ("BlueCoats$Reader", "told", "I", false)
def tyX4 : Nat → FieldType := fun k => match k with
  | 0 => .object "BlueCoats$Statutes"
  | 1 => .int
  | 2 => .int
  | 3 => .int
  | 4 => .array .byte
  | 5 => .int
  | 6 => .int
  | 7 => .int
  | 8 => .int
  | 9 => .int
  | _ => .int
abbrev wsX40 : List Cond := u_ws RX4 TX4 11
theorem nmX4 : ∀ a, a < 11 → ∀ b, b < 11 → a ≠ b → (TX4 a).2.1 ≠ (TX4 b).2.1 := by decide +kernel
theorem tyX4_ok : ∀ k, k < 11 → parseFieldDescriptor (TX4 k).2.2.1 = some (tyX4 k) := by decide +kernel
abbrev cX4_init : ByteArray := prog_6_method_1_code
def yX4_init : MethodName := ⟨RX4, "<init>", "()V"⟩
abbrev cX4_append : ByteArray := prog_6_method_2_code
def yX4_append : MethodName := ⟨RX4, "append", "(I)V"⟩
abbrev cX4_read : ByteArray := prog_6_method_3_code
def yX4_read : MethodName := ⟨RX4, "read", "(I)I"⟩
abbrev cX4_blame : ByteArray := prog_6_method_4_code
def yX4_blame : MethodName := ⟨RX4, "blame", "(I)V"⟩
abbrev cX4_begunLine : ByteArray := prog_6_method_5_code
def yX4_begunLine : MethodName := ⟨RX4, "begunLine", "()I"⟩
abbrev cX4_endLine : ByteArray := prog_6_method_6_code
def yX4_endLine : MethodName := ⟨RX4, "endLine", "()V"⟩
abbrev cX4_readRest : ByteArray := prog_6_method_7_code
def yX4_readRest : MethodName := ⟨RX4, "readRest", "(I)V"⟩
abbrev cX4_readWays : ByteArray := prog_6_method_8_code
def yX4_readWays : MethodName := ⟨RX4, "readWays", "()V"⟩
abbrev cX4_readAges : ByteArray := prog_6_method_9_code
def yX4_readAges : MethodName := ⟨RX4, "readAges", "()V"⟩
abbrev cX4_readNumber : ByteArray := prog_6_method_10_code
def yX4_readNumber : MethodName := ⟨RX4, "readNumber", "(II)I"⟩
abbrev cX4_lineNamed : ByteArray := prog_6_method_11_code
def yX4_lineNamed : MethodName := ⟨RX4, "lineNamed", "()I"⟩
abbrev cX4_wayNamed : ByteArray := prog_6_method_12_code
def yX4_wayNamed : MethodName := ⟨RX4, "wayNamed", "()I"⟩
abbrev cX4_isWord : ByteArray := prog_6_method_13_code
def yX4_isWord : MethodName := ⟨RX4, "isWord", "(Ljava/lang/String;)Z"⟩
abbrev cX4_advance : ByteArray := prog_6_method_14_code
def yX4_advance : MethodName := ⟨RX4, "advance", "()V"⟩
abbrev cX4_scanDigits : ByteArray := prog_6_method_15_code
def yX4_scanDigits : MethodName := ⟨RX4, "scanDigits", "()V"⟩
abbrev cX4_signAt : ByteArray := prog_6_method_16_code
def yX4_signAt : MethodName := ⟨RX4, "signAt", "(I)I"⟩
abbrev cX4_isBlank : ByteArray := prog_6_method_17_code
def yX4_isBlank : MethodName := ⟨RX4, "isBlank", "(I)Z"⟩
abbrev cX4_isLetter : ByteArray := prog_6_method_18_code
def yX4_isLetter : MethodName := ⟨RX4, "isLetter", "(I)Z"⟩
abbrev cX4_isDigit : ByteArray := prog_6_method_19_code
def yX4_isDigit : MethodName := ⟨RX4, "isDigit", "(I)Z"⟩
def RX5 : String := "BlueCoats$Statutes"
def TX5 : u_T := fun k => match k with
  | 0 => ("BlueCoats$Statutes", "cycle", "[I", true)
  | 1 => ("BlueCoats$Statutes", "ways", "I", false)
  | 2 => ("BlueCoats$Statutes", "next", "I", false)
  | 3 => ("BlueCoats$Statutes", "vote", "I", false)
  | 4 => ("BlueCoats$Statutes", "ageFrom", "I", false)
  | 5 => ("BlueCoats$Statutes", "ageTo", "I", false)
  | 6 => ("BlueCoats$Statutes", "wear", "I", false)
  | 7 => ("BlueCoats$Statutes", "spare", "I", false)
  | _ => ("BlueCoats$Statutes", "places", "I", false)
def tyX5 : Nat → FieldType := fun k => match k with
  | 0 => .array .int
  | 1 => .int
  | 2 => .int
  | 3 => .int
  | 4 => .int
  | 5 => .int
  | 6 => .int
  | 7 => .int
  | _ => .int
abbrev wsX50 : List Cond := u_ws RX5 TX5 9
theorem nmX5 : ∀ a, a < 9 → ∀ b, b < 9 → a ≠ b → (TX5 a).2.1 ≠ (TX5 b).2.1 := by decide +kernel
theorem tyX5_ok : ∀ k, k < 9 → parseFieldDescriptor (TX5 k).2.2.1 = some (tyX5 k) := by decide +kernel
abbrev cX5_init : ByteArray := prog_7_method_1_code
def yX5_init : MethodName := ⟨RX5, "<init>", "()V"⟩
abbrev cX5_sayNothing : ByteArray := prog_7_method_2_code
def yX5_sayNothing : MethodName := ⟨RX5, "sayNothing", "()V"⟩
abbrev cX5_takeOver : ByteArray := prog_7_method_3_code
def yX5_takeOver : MethodName := ⟨RX5, "takeOver", "(LBlueCoats$Statutes;)V"⟩
abbrev cX5_wayNext : ByteArray := prog_7_method_4_code
def yX5_wayNext : MethodName := ⟨RX5, "wayNext", "()I"⟩
abbrev cX5_goOn : ByteArray := prog_7_method_5_code
def yX5_goOn : MethodName := ⟨RX5, "goOn", "()V"⟩
def RX6 : String := "BlueCoats$Wardrobe"
def TX6 : u_T := fun k => match k with
  | 0 => ("BlueCoats$Wardrobe", "size", "[I", true)
  | 1 => ("BlueCoats$Wardrobe", "worn", "[I", true)
  | 2 => ("BlueCoats$Wardrobe", "gone", "[Z", true)
  | 3 => ("BlueCoats$Wardrobe", "wearer", "[I", true)
  | _ => ("BlueCoats$Wardrobe", "number", "I", false)
def tyX6 : Nat → FieldType := fun k => match k with
  | 0 => .array .int
  | 1 => .array .int
  | 2 => .array .boolean
  | 3 => .array .int
  | _ => .int
abbrev wsX60 : List Cond := u_ws RX6 TX6 5
theorem nmX6 : ∀ a, a < 5 → ∀ b, b < 5 → a ≠ b → (TX6 a).2.1 ≠ (TX6 b).2.1 := by decide +kernel
theorem tyX6_ok : ∀ k, k < 5 → parseFieldDescriptor (TX6 k).2.2.1 = some (tyX6 k) := by decide +kernel
abbrev cX6_init : ByteArray := prog_8_method_1_code
def yX6_init : MethodName := ⟨RX6, "<init>", "()V"⟩
abbrev cX6_has : ByteArray := prog_8_method_2_code
def yX6_has : MethodName := ⟨RX6, "has", "(I)Z"⟩
abbrev cX6_cut : ByteArray := prog_8_method_3_code
def yX6_cut : MethodName := ⟨RX6, "cut", "(I)I"⟩
abbrev cX6_wearOut : ByteArray := prog_8_method_4_code
def yX6_wearOut : MethodName := ⟨RX6, "wearOut", "(II)Z"⟩
abbrev cX6_fitting : ByteArray := prog_8_method_5_code
def yX6_fitting : MethodName := ⟨RX6, "fitting", "(II)J"⟩
def RX7 : String := "BlueCoats"
def TX7 : u_T := fun k => match k with
  | 0 => ("BlueCoats", "reader", "LBlueCoats$Reader;", true)
  | 1 => ("BlueCoats", "law", "LBlueCoats$Statutes;", true)
  | 2 => ("BlueCoats", "givers", "LBlueCoats$Givers;", true)
  | 3 => ("BlueCoats", "children", "LBlueCoats$Children;", true)
  | 4 => ("BlueCoats", "wardrobe", "LBlueCoats$Wardrobe;", true)
  | 5 => ("BlueCoats", "dressing", "LBlueCoats$Dressing;", true)
  | 6 => ("BlueCoats", "chest", "LBlueCoats$Chest;", true)
  | _ => ("BlueCoats", "years", "I", false)
def tyX7 : Nat → FieldType := fun k => match k with
  | 0 => .object "BlueCoats$Reader"
  | 1 => .object "BlueCoats$Statutes"
  | 2 => .object "BlueCoats$Givers"
  | 3 => .object "BlueCoats$Children"
  | 4 => .object "BlueCoats$Wardrobe"
  | 5 => .object "BlueCoats$Dressing"
  | 6 => .object "BlueCoats$Chest"
  | _ => .int
abbrev wsX70 : List Cond := u_ws RX7 TX7 8
theorem nmX7 : ∀ a, a < 8 → ∀ b, b < 8 → a ≠ b → (TX7 a).2.1 ≠ (TX7 b).2.1 := by decide +kernel
theorem tyX7_ok : ∀ k, k < 8 → parseFieldDescriptor (TX7 k).2.2.1 = some (tyX7 k) := by decide +kernel
abbrev cX7_init : ByteArray := prog_1_method_1_code
def yX7_init : MethodName := ⟨RX7, "<init>", "()V"⟩
abbrev cX7_feed : ByteArray := prog_1_method_2_code
def yX7_feed : MethodName := ⟨RX7, "feed", "(IIIII)I"⟩
abbrev cX7_statutes : ByteArray := prog_1_method_3_code
def yX7_statutes : MethodName := ⟨RX7, "statutes", "(I)I"⟩
abbrev cX7_fault : ByteArray := prog_1_method_4_code
def yX7_fault : MethodName := ⟨RX7, "fault", "(I)I"⟩
abbrev cX7_giver : ByteArray := prog_1_method_5_code
def yX7_giver : MethodName := ⟨RX7, "giver", "()I"⟩
abbrev cX7_gift : ByteArray := prog_1_method_6_code
def yX7_gift : MethodName := ⟨RX7, "gift", "(II)I"⟩
abbrev cX7_support : ByteArray := prog_1_method_7_code
def yX7_support : MethodName := ⟨RX7, "support", "(II)Z"⟩
abbrev cX7_child : ByteArray := prog_1_method_8_code
def yX7_child : MethodName := ⟨RX7, "child", "(IIII)I"⟩
abbrev cX7_fill : ByteArray := prog_1_method_9_code
def yX7_fill : MethodName := ⟨RX7, "fill", "()I"⟩
abbrev cX7_chosenBy : ByteArray := prog_1_method_10_code
def yX7_chosenBy : MethodName := ⟨RX7, "chosenBy", "(I)I"⟩
abbrev cX7_chosenByTurn : ByteArray := prog_1_method_11_code
def yX7_chosenByTurn : MethodName := ⟨RX7, "chosenByTurn", "()I"⟩
abbrev cX7_chosenByVote : ByteArray := prog_1_method_12_code
def yX7_chosenByVote : MethodName := ⟨RX7, "chosenByVote", "()I"⟩
abbrev cX7_chosenByNeed : ByteArray := prog_1_method_13_code
def yX7_chosenByNeed : MethodName := ⟨RX7, "chosenByNeed", "()I"⟩
abbrev cX7_mayCome : ByteArray := prog_1_method_14_code
def yX7_mayCome : MethodName := ⟨RX7, "mayCome", "(I)Z"⟩
abbrev cX7_year : ByteArray := prog_1_method_15_code
def yX7_year : MethodName := ⟨RX7, "year", "()I"⟩
abbrev cX7_handIn : ByteArray := prog_1_method_16_code
def yX7_handIn : MethodName := ⟨RX7, "handIn", "(I)V"⟩
abbrev cX7_handOut : ByteArray := prog_1_method_17_code
def yX7_handOut : MethodName := ⟨RX7, "handOut", "(II)V"⟩
abbrev cX7_feast : ByteArray := prog_1_method_18_code
def yX7_feast : MethodName := ⟨RX7, "feast", "()I"⟩
abbrev cX7_legacy : ByteArray := prog_1_method_19_code
def yX7_legacy : MethodName := ⟨RX7, "legacy", "(II)I"⟩
abbrev cX7_need : ByteArray := prog_1_method_20_code
def yX7_need : MethodName := ⟨RX7, "need", "(II)Z"⟩
abbrev cX7_owed : ByteArray := prog_1_method_21_code
def yX7_owed : MethodName := ⟨RX7, "owed", "(II)I"⟩
abbrev cX7_pay : ByteArray := prog_1_method_22_code
def yX7_pay : MethodName := ⟨RX7, "pay", "()I"⟩
abbrev cX7_look : ByteArray := prog_1_method_23_code
def yX7_look : MethodName := ⟨RX7, "look", "(II)I"⟩
abbrev cX7_coat : ByteArray := prog_1_method_24_code
def yX7_coat : MethodName := ⟨RX7, "coat", "(II)I"⟩
abbrev cX7_count : ByteArray := prog_1_method_25_code
def yX7_count : MethodName := ⟨RX7, "count", "(I)I"⟩
def RX8 : String := "BlueCoatsModel"
def TX8 : u_T := fun k => match k with
  | 0 => ("BlueCoatsModel", "tape", "[I", true)
  | 1 => ("BlueCoatsModel", "tapeSize", "I", false)
  | 2 => ("BlueCoatsModel", "thrown", "I", false)
  | 3 => ("BlueCoatsModel", "cycle", "[I", true)
  | 4 => ("BlueCoatsModel", "cycleMany", "I", false)
  | 5 => ("BlueCoatsModel", "vote", "I", false)
  | 6 => ("BlueCoatsModel", "low", "I", false)
  | 7 => ("BlueCoatsModel", "high", "I", false)
  | 8 => ("BlueCoatsModel", "wear", "I", false)
  | 9 => ("BlueCoatsModel", "spare", "I", false)
  | 10 => ("BlueCoatsModel", "places", "I", false)
  | 11 => ("BlueCoatsModel", "cycleNext", "I", false)
  | 12 => ("BlueCoatsModel", "fault", "I", false)
  | 13 => ("BlueCoatsModel", "faultPlace", "I", false)
  | 14 => ("BlueCoatsModel", "givers", "I", false)
  | 15 => ("BlueCoatsModel", "gave", "[I", true)
  | 16 => ("BlueCoatsModel", "supports", "[I", true)
  | 17 => ("BlueCoatsModel", "giverNext", "I", false)
  | 18 => ("BlueCoatsModel", "children", "I", false)
  | 19 => ("BlueCoatsModel", "age", "[I", true)
  | 20 => ("BlueCoatsModel", "want", "[I", true)
  | 21 => ("BlueCoatsModel", "size", "[I", true)
  | 22 => ("BlueCoatsModel", "growth", "[I", true)
  | 23 => ("BlueCoatsModel", "state", "[I", true)
  | 24 => ("BlueCoatsModel", "coats", "I", false)
  | 25 => ("BlueCoatsModel", "coatSize", "[I", true)
  | 26 => ("BlueCoatsModel", "worn", "[I", true)
  | 27 => ("BlueCoatsModel", "gone", "[Z", true)
  | 28 => ("BlueCoatsModel", "wearer", "[I", true)
  | 29 => ("BlueCoatsModel", "years", "I", false)
  | 30 => ("BlueCoatsModel", "legacies", "I", false)
  | 31 => ("BlueCoatsModel", "coins", "[I", true)
  | 32 => ("BlueCoatsModel", "ends", "[I", true)
  | 33 => ("BlueCoatsModel", "needs", "[I", true)
  | 34 => ("BlueCoatsModel", "words", "[I", true)
  | 35 => ("BlueCoatsModel", "end", "I", false)
  | 36 => ("BlueCoatsModel", "next", "I", false)
  | 37 => ("BlueCoatsModel", "kind", "I", false)
  | 38 => ("BlueCoatsModel", "which", "I", false)
  | 39 => ("BlueCoatsModel", "place", "I", false)
  | 40 => ("BlueCoatsModel", "read", "I", false)
  | 41 => ("BlueCoatsModel", "told", "[Z", true)
  | 42 => ("BlueCoatsModel", "rules", "[I", true)
  | 43 => ("BlueCoatsModel", "readMany", "I", false)
  | 44 => ("BlueCoatsModel", "readHigh", "I", false)
  | 45 => ("BlueCoatsModel", "inside", "[I", true)
  | 46 => ("BlueCoatsModel", "insideMany", "I", false)
  | 47 => ("BlueCoatsModel", "can", "[Z", true)
  | 48 => ("BlueCoatsModel", "used", "[Z", true)
  | 49 => ("BlueCoatsModel", "given", "[I", true)
  | 50 => ("BlueCoatsModel", "gets", "[I", true)
  | _ => ("BlueCoatsModel", "pays", "[I", true)
def tyX8 : Nat → FieldType := fun k => match k with
  | 0 => .array .int
  | 1 => .int
  | 2 => .int
  | 3 => .array .int
  | 4 => .int
  | 5 => .int
  | 6 => .int
  | 7 => .int
  | 8 => .int
  | 9 => .int
  | 10 => .int
  | 11 => .int
  | 12 => .int
  | 13 => .int
  | 14 => .int
  | 15 => .array .int
  | 16 => .array .int
  | 17 => .int
  | 18 => .int
  | 19 => .array .int
  | 20 => .array .int
  | 21 => .array .int
  | 22 => .array .int
  | 23 => .array .int
  | 24 => .int
  | 25 => .array .int
  | 26 => .array .int
  | 27 => .array .boolean
  | 28 => .array .int
  | 29 => .int
  | 30 => .int
  | 31 => .array .int
  | 32 => .array .int
  | 33 => .array .int
  | 34 => .array .int
  | 35 => .int
  | 36 => .int
  | 37 => .int
  | 38 => .int
  | 39 => .int
  | 40 => .int
  | 41 => .array .boolean
  | 42 => .array .int
  | 43 => .int
  | 44 => .int
  | 45 => .array .int
  | 46 => .int
  | 47 => .array .boolean
  | 48 => .array .boolean
  | 49 => .array .int
  | 50 => .array .int
  | _ => .array .int
abbrev wsX80 : List Cond := u_ws RX8 TX8 52
theorem nmX8 : ∀ a, a < 52 → ∀ b, b < 52 → a ≠ b → (TX8 a).2.1 ≠ (TX8 b).2.1 := by decide +kernel
theorem tyX8_ok : ∀ k, k < 52 → parseFieldDescriptor (TX8 k).2.2.1 = some (tyX8 k) := by decide +kernel
abbrev cX8_init : ByteArray := prog_10_method_1_code
def yX8_init : MethodName := ⟨RX8, "<init>", "()V"⟩
abbrev cX8_thrown : ByteArray := prog_10_method_2_code
def yX8_thrown : MethodName := ⟨RX8, "thrown", "()I"⟩
abbrev cX8_feed : ByteArray := prog_10_method_3_code
def yX8_feed : MethodName := ⟨RX8, "feed", "(IIIII)I"⟩
abbrev cX8_wrong : ByteArray := prog_10_method_4_code
def yX8_wrong : MethodName := ⟨RX8, "wrong", "(II)Z"⟩
abbrev cX8_wordAt : ByteArray := prog_10_method_5_code
def yX8_wordAt : MethodName := ⟨RX8, "wordAt", "(II)I"⟩
abbrev cX8_isSmall : ByteArray := prog_10_method_6_code
def yX8_isSmall : MethodName := ⟨RX8, "isSmall", "(I)Z"⟩
abbrev cX8_isDigit : ByteArray := prog_10_method_7_code
def yX8_isDigit : MethodName := ⟨RX8, "isDigit", "(I)Z"⟩
abbrev cX8_take : ByteArray := prog_10_method_8_code
def yX8_take : MethodName := ⟨RX8, "take", "()V"⟩
abbrev cX8_number : ByteArray := prog_10_method_9_code
def yX8_number : MethodName := ⟨RX8, "number", "(II)Z"⟩
abbrev cX8_cycleLine : ByteArray := prog_10_method_10_code
def yX8_cycleLine : MethodName := ⟨RX8, "cycleLine", "()Z"⟩
abbrev cX8_line : ByteArray := prog_10_method_11_code
def yX8_line : MethodName := ⟨RX8, "line", "()Z"⟩
abbrev cX8_statutes : ByteArray := prog_10_method_12_code
def yX8_statutes : MethodName := ⟨RX8, "statutes", "(I)I"⟩
abbrev cX8_fault : ByteArray := prog_10_method_13_code
def yX8_fault : MethodName := ⟨RX8, "fault", "(I)I"⟩
abbrev cX8_giver : ByteArray := prog_10_method_14_code
def yX8_giver : MethodName := ⟨RX8, "giver", "()I"⟩
abbrev cX8_gift : ByteArray := prog_10_method_15_code
def yX8_gift : MethodName := ⟨RX8, "gift", "(II)I"⟩
abbrev cX8_isChild : ByteArray := prog_10_method_16_code
def yX8_isChild : MethodName := ⟨RX8, "isChild", "(I)Z"⟩
abbrev cX8_support : ByteArray := prog_10_method_17_code
def yX8_support : MethodName := ⟨RX8, "support", "(II)Z"⟩
abbrev cX8_child : ByteArray := prog_10_method_18_code
def yX8_child : MethodName := ⟨RX8, "child", "(IIII)I"⟩
abbrev cX8_votes : ByteArray := prog_10_method_19_code
def yX8_votes : MethodName := ⟨RX8, "votes", "(I)I"⟩
abbrev cX8_mayCome : ByteArray := prog_10_method_20_code
def yX8_mayCome : MethodName := ⟨RX8, "mayCome", "(I)Z"⟩
abbrev cX8_inMany : ByteArray := prog_10_method_21_code
def yX8_inMany : MethodName := ⟨RX8, "inMany", "()I"⟩
abbrev cX8_isAhead : ByteArray := prog_10_method_22_code
def yX8_isAhead : MethodName := ⟨RX8, "isAhead", "(IIZ)Z"⟩
abbrev cX8_comes : ByteArray := prog_10_method_23_code
def yX8_comes : MethodName := ⟨RX8, "comes", "()I"⟩
abbrev cX8_fill : ByteArray := prog_10_method_24_code
def yX8_fill : MethodName := ⟨RX8, "fill", "()I"⟩
abbrev cX8_year : ByteArray := prog_10_method_25_code
def yX8_year : MethodName := ⟨RX8, "year", "()I"⟩
abbrev cX8_suits : ByteArray := prog_10_method_26_code
def yX8_suits : MethodName := ⟨RX8, "suits", "(II)Z"⟩
abbrev cX8_sets : ByteArray := prog_10_method_27_code
def yX8_sets : MethodName := ⟨RX8, "sets", "(I)V"⟩
abbrev cX8_isFirst : ByteArray := prog_10_method_28_code
def yX8_isFirst : MethodName := ⟨RX8, "isFirst", "(II)Z"⟩
abbrev cX8_clothOf : ByteArray := prog_10_method_29_code
def yX8_clothOf : MethodName := ⟨RX8, "clothOf", "(I)I"⟩
abbrev cX8_feast : ByteArray := prog_10_method_30_code
def yX8_feast : MethodName := ⟨RX8, "feast", "()I"⟩
abbrev cX8_legacy : ByteArray := prog_10_method_31_code
def yX8_legacy : MethodName := ⟨RX8, "legacy", "(II)I"⟩
abbrev cX8_need : ByteArray := prog_10_method_32_code
def yX8_need : MethodName := ⟨RX8, "need", "(II)Z"⟩
abbrev cX8_coinsFor : ByteArray := prog_10_method_33_code
def yX8_coinsFor : MethodName := ⟨RX8, "coinsFor", "(I)I"⟩
abbrev cX8_needOf : ByteArray := prog_10_method_34_code
def yX8_needOf : MethodName := ⟨RX8, "needOf", "(I)I"⟩
abbrev cX8_deal : ByteArray := prog_10_method_35_code
def yX8_deal : MethodName := ⟨RX8, "deal", "()V"⟩
abbrev cX8_shortage : ByteArray := prog_10_method_36_code
def yX8_shortage : MethodName := ⟨RX8, "shortage", "()I"⟩
abbrev cX8_owed : ByteArray := prog_10_method_37_code
def yX8_owed : MethodName := ⟨RX8, "owed", "(II)I"⟩
abbrev cX8_pay : ByteArray := prog_10_method_38_code
def yX8_pay : MethodName := ⟨RX8, "pay", "()I"⟩
abbrev cX8_fails : ByteArray := prog_10_method_39_code
def yX8_fails : MethodName := ⟨RX8, "fails", "(I)I"⟩
abbrev cX8_coatOf : ByteArray := prog_10_method_40_code
def yX8_coatOf : MethodName := ⟨RX8, "coatOf", "(I)I"⟩
abbrev cX8_look : ByteArray := prog_10_method_41_code
def yX8_look : MethodName := ⟨RX8, "look", "(II)I"⟩
abbrev cX8_coat : ByteArray := prog_10_method_42_code
def yX8_coat : MethodName := ⟨RX8, "coat", "(II)I"⟩
abbrev cX8_count : ByteArray := prog_10_method_43_code
def yX8_count : MethodName := ⟨RX8, "count", "(I)I"⟩
def RJ6 : String := "java/lang/Integer"
def TJ6 : u_T := fun k => match k with
  | _ => ("", "", "", false)
def tyJ6 : Nat → FieldType := fun k => match k with
  | _ => .int
abbrev wsJ60 : List Cond := u_ws RJ6 TJ6 0
theorem nmJ6 : ∀ a, a < 0 → ∀ b, b < 0 → a ≠ b → (TJ6 a).2.1 ≠ (TJ6 b).2.1 := by decide +kernel
theorem tyJ6_ok : ∀ k, k < 0 → parseFieldDescriptor (TJ6 k).2.2.1 = some (tyJ6 k) := by decide +kernel
abbrev cJ6_bitCount_0f7a4 : ByteArray := prog_13_method_49_code
def yJ6_bitCount_0f7a4 : MethodName := ⟨RJ6, "bitCount", "(I)I"⟩
def RJ13 : String := "java/lang/Long"
def TJ13 : u_T := fun k => match k with
  | _ => ("", "", "", false)
def tyJ13 : Nat → FieldType := fun k => match k with
  | _ => .int
abbrev wsJ130 : List Cond := u_ws RJ13 TJ13 0
theorem nmJ13 : ∀ a, a < 0 → ∀ b, b < 0 → a ≠ b → (TJ13 a).2.1 ≠ (TJ13 b).2.1 := by decide +kernel
theorem tyJ13_ok : ∀ k, k < 0 → parseFieldDescriptor (TJ13 k).2.2.1 = some (tyJ13 k) := by decide +kernel
abbrev cJ13_bitCount_95d88 : ByteArray := prog_14_method_50_code
def yJ13_bitCount_95d88 : MethodName := ⟨RJ13, "bitCount", "(J)I"⟩
def RJ9 : String := "java/lang/Math"
def TJ9 : u_T := fun k => match k with
  | _ => ("", "", "", false)
def tyJ9 : Nat → FieldType := fun k => match k with
  | _ => .int
abbrev wsJ90 : List Cond := u_ws RJ9 TJ9 0
theorem nmJ9 : ∀ a, a < 0 → ∀ b, b < 0 → a ≠ b → (TJ9 a).2.1 ≠ (TJ9 b).2.1 := by decide +kernel
theorem tyJ9_ok : ∀ k, k < 0 → parseFieldDescriptor (TJ9 k).2.2.1 = some (tyJ9 k) := by decide +kernel
abbrev cJ9_max_7cf53 : ByteArray := prog_15_method_65_code
def yJ9_max_7cf53 : MethodName := ⟨RJ9, "max", "(II)I"⟩
abbrev cJ9_min_7cf53 : ByteArray := prog_15_method_69_code
def yJ9_min_7cf53 : MethodName := ⟨RJ9, "min", "(II)I"⟩
def RJ0 : String := "java/lang/String"
def TJ0 : u_T := fun k => match k with
  | _ => ("", "", "", false)
def tyJ0 : Nat → FieldType := fun k => match k with
  | _ => .int
abbrev wsJ00 : List Cond := u_ws RJ0 TJ0 0
theorem nmJ0 : ∀ a, a < 0 → ∀ b, b < 0 → a ≠ b → (TJ0 a).2.1 ≠ (TJ0 b).2.1 := by decide +kernel
theorem tyJ0_ok : ∀ k, k < 0 → parseFieldDescriptor (TJ0 k).2.2.1 = some (tyJ0 k) := by decide +kernel
abbrev cJ0_length_8abf5 : ByteArray := prog_17_method_54_code
def yJ0_length_8abf5 : MethodName := ⟨RJ0, "length", "()I"⟩
abbrev cJ0_charAt_5068e : ByteArray := prog_17_method_56_code
def yJ0_charAt_5068e : MethodName := ⟨RJ0, "charAt", "(I)C"⟩
abbrev cJ0_coder_7d493 : ByteArray := prog_17_method_152_code
def yJ0_coder_7d493 : MethodName := ⟨RJ0, "coder", "()B"⟩
abbrev cJ0_isLatin1_aae02 : ByteArray := prog_17_method_154_code
def yJ0_isLatin1_aae02 : MethodName := ⟨RJ0, "isLatin1", "()Z"⟩
abbrev cJ0_checkIndex_df160 : ByteArray := prog_17_method_155_code
def yJ0_checkIndex_df160 : MethodName := ⟨RJ0, "checkIndex", "(II)V"⟩
def RJ1 : String := "java/lang/StringLatin1"
def TJ1 : u_T := fun k => match k with
  | _ => ("", "", "", false)
def tyJ1 : Nat → FieldType := fun k => match k with
  | _ => .int
abbrev wsJ10 : List Cond := u_ws RJ1 TJ1 0
theorem nmJ1 : ∀ a, a < 0 → ∀ b, b < 0 → a ≠ b → (TJ1 a).2.1 ≠ (TJ1 b).2.1 := by decide +kernel
theorem tyJ1_ok : ∀ k, k < 0 → parseFieldDescriptor (TJ1 k).2.2.1 = some (tyJ1 k) := by decide +kernel
abbrev cJ1_charAt_3b067 : ByteArray := prog_18_method_2_code
def yJ1_charAt_3b067 : MethodName := ⟨RJ1, "charAt", "([BI)C"⟩
def RJ2 : String := "java/lang/StringUTF16"
def TJ2 : u_T := fun k => match k with
  | _ => ("", "", "", false)
def tyJ2 : Nat → FieldType := fun k => match k with
  | _ => .int
abbrev wsJ20 : List Cond := u_ws RJ2 TJ2 0
theorem nmJ2 : ∀ a, a < 0 → ∀ b, b < 0 → a ≠ b → (TJ2 a).2.1 ≠ (TJ2 b).2.1 := by decide +kernel
theorem tyJ2_ok : ∀ k, k < 0 → parseFieldDescriptor (TJ2 k).2.2.1 = some (tyJ2 k) := by decide +kernel
abbrev cJ2_getChar_3b067 : ByteArray := prog_19_method_5_code
def yJ2_getChar_3b067 : MethodName := ⟨RJ2, "getChar", "([BI)C"⟩
abbrev cJ2_length_9d52b : ByteArray := prog_19_method_6_code
def yJ2_length_9d52b : MethodName := ⟨RJ2, "length", "([B)I"⟩
abbrev cJ2_charAt_3b067 : ByteArray := prog_19_method_83_code
def yJ2_charAt_3b067 : MethodName := ⟨RJ2, "charAt", "([BI)C"⟩
abbrev cJ2_checkIndex_2214a : ByteArray := prog_19_method_91_code
def yJ2_checkIndex_2214a : MethodName := ⟨RJ2, "checkIndex", "(I[B)V"⟩
def RJ10 : String := "java/lang/System"
def TJ10 : u_T := fun k => match k with
  | _ => ("", "", "", false)
def tyJ10 : Nat → FieldType := fun k => match k with
  | _ => .int
abbrev wsJ100 : List Cond := u_ws RJ10 TJ10 0
theorem nmJ10 : ∀ a, a < 0 → ∀ b, b < 0 → a ≠ b → (TJ10 a).2.1 ≠ (TJ10 b).2.1 := by decide +kernel
theorem tyJ10_ok : ∀ k, k < 0 → parseFieldDescriptor (TJ10 k).2.2.1 = some (tyJ10 k) := by decide +kernel
def RJ3 : String := "jdk/internal/util/Preconditions"
def TJ3 : u_T := fun k => match k with
  | _ => ("", "", "", false)
def tyJ3 : Nat → FieldType := fun k => match k with
  | _ => .int
abbrev wsJ30 : List Cond := u_ws RJ3 TJ3 0
theorem nmJ3 : ∀ a, a < 0 → ∀ b, b < 0 → a ≠ b → (TJ3 a).2.1 ≠ (TJ3 b).2.1 := by decide +kernel
theorem tyJ3_ok : ∀ k, k < 0 → parseFieldDescriptor (TJ3 k).2.2.1 = some (tyJ3 k) := by decide +kernel
abbrev cJ3_checkIndex_8e157 : ByteArray := prog_23_method_11_code
def yJ3_checkIndex_8e157 : MethodName := ⟨RJ3, "checkIndex", "(IILjava/util/function/BiFunction;)I"⟩
def RL : String := "BlueCoatsLaw"
abbrev cL_look : ByteArray := method_3_code
def yL_look : MethodName := ⟨RL, "look", "(LBlueCoats;II[J)I"⟩
abbrev cL_law : ByteArray := code
def yL_law : MethodName := ⟨RL, "law", "([I)Z"⟩
def wsX0_init : List Cond := .code yX0_init cX0_init 1 none :: ([.methodLink RX0 5 objectInit, .instanceMethod objectInit, .code objectInit ⟨#[0xb1]⟩ 1 none, .arrayClass .int, .fieldLink RX0 11 "BlueCoats$Chest" "need" "[I", .fieldLink RX0 15 "BlueCoats$Chest" "toEnd" "[I", .fieldLink RX0 18 "BlueCoats$Chest" "fromLegacy" "[I", .fieldLink RX0 21 "BlueCoats$Chest" "coins" "[I", .fieldLink RX0 24 "BlueCoats$Chest" "ends" "[I", .fieldLink RX0 27 "BlueCoats$Chest" "lack" "[I"] ++ wsX00)
def wsX0_add : List Cond := .code yX0_add cX0_add 3 (some .int) :: ([.fieldLink RX0 30 "BlueCoats$Chest" "number" "I", .fieldLink RX0 21 "BlueCoats$Chest" "coins" "[I", .fieldLink RX0 24 "BlueCoats$Chest" "ends" "[I"] ++ wsX00)
def wsX0_setLack : List Cond := .code yX0_setLack cX0_setLack 4 none :: ([.fieldLink RX0 27 "BlueCoats$Chest" "lack" "[I"] ++ wsX00)
def wsX0_lessenLack : List Cond := .code yX0_lessenLack cX0_lessenLack 3 none :: ([.fieldLink RX0 24 "BlueCoats$Chest" "ends" "[I", .fieldLink RX0 27 "BlueCoats$Chest" "lack" "[I", .fieldLink RX0 21 "BlueCoats$Chest" "coins" "[I"] ++ wsX00)
def wsX0_planEnds : List Cond := .code yX0_planEnds cX0_planEnds 5 none :: ([.fieldLink RX0 11 "BlueCoats$Chest" "need" "[I", .fieldLink RX0 30 "BlueCoats$Chest" "number" "I", .fieldLink RX0 48 "BlueCoats$Chest" "shortfall" "I", .fieldLink RX0 51 "BlueCoats$Chest" "proof" "I", .fieldLink RX0 27 "BlueCoats$Chest" "lack" "[I", .fieldLink RX0 15 "BlueCoats$Chest" "toEnd" "[I", .methodLink RX0 40 yX0_setLack, .instanceMethod yX0_setLack, .selects RX0 yX0_setLack yX0_setLack, .initialized RX0, .code yX0_setLack cX0_setLack 4 none, .methodLink RX0 44 yX0_lessenLack, .instanceMethod yX0_lessenLack, .selects RX0 yX0_lessenLack yX0_lessenLack, .code yX0_lessenLack cX0_lessenLack 3 none, .fieldLink RX0 24 "BlueCoats$Chest" "ends" "[I", .fieldLink RX0 21 "BlueCoats$Chest" "coins" "[I"] ++ wsX00)
def wsX0_greatestLack : List Cond := .code yX0_greatestLack cX0_greatestLack 3 (some .int) :: ([.fieldLink RX0 27 "BlueCoats$Chest" "lack" "[I", .methodLink RX0 58 Lib.Math.max.name, .static Lib.Math.max.name, .initialized "java/lang/Math", .code Lib.Math.max.name Lib.Math.max.code 2 (some .int)] ++ wsX00)
def wsX0_planLegacies : List Cond := .code yX0_planLegacies cX0_planLegacies 5 none :: ([.fieldLink RX0 15 "BlueCoats$Chest" "toEnd" "[I", .fieldLink RX0 27 "BlueCoats$Chest" "lack" "[I", .fieldLink RX0 30 "BlueCoats$Chest" "number" "I", .fieldLink RX0 18 "BlueCoats$Chest" "fromLegacy" "[I", .methodLink RX0 40 yX0_setLack, .instanceMethod yX0_setLack, .selects RX0 yX0_setLack yX0_setLack, .initialized RX0, .code yX0_setLack cX0_setLack 4 none, .methodLink RX0 44 yX0_lessenLack, .instanceMethod yX0_lessenLack, .selects RX0 yX0_lessenLack yX0_lessenLack, .code yX0_lessenLack cX0_lessenLack 3 none, .fieldLink RX0 24 "BlueCoats$Chest" "ends" "[I", .fieldLink RX0 21 "BlueCoats$Chest" "coins" "[I", .methodLink RX0 54 yX0_greatestLack, .instanceMethod yX0_greatestLack, .selects RX0 yX0_greatestLack yX0_greatestLack, .code yX0_greatestLack cX0_greatestLack 3 (some .int), .methodLink RX0 58 Lib.Math.max.name, .static Lib.Math.max.name, .initialized "java/lang/Math", .code Lib.Math.max.name Lib.Math.max.code 2 (some .int)] ++ wsX00)
def wsX0_plan_r1 : List Cond := [Cond.methodLink RX0 34 yX0_planEnds, Cond.instanceMethod yX0_planEnds, Cond.selects RX0 yX0_planEnds yX0_planEnds, Cond.initialized RX0, Cond.code yX0_planEnds cX0_planEnds 5 none, Cond.fieldLink RX0 11 "BlueCoats$Chest" "need" "[I", Cond.fieldLink RX0 30 "BlueCoats$Chest" "number" "I", Cond.fieldLink RX0 48 "BlueCoats$Chest" "shortfall" "I", Cond.fieldLink RX0 51 "BlueCoats$Chest" "proof" "I", Cond.fieldLink RX0 27 "BlueCoats$Chest" "lack" "[I", Cond.fieldLink RX0 15 "BlueCoats$Chest" "toEnd" "[I", Cond.methodLink RX0 40 yX0_setLack, Cond.instanceMethod yX0_setLack, Cond.selects RX0 yX0_setLack yX0_setLack, Cond.code yX0_setLack cX0_setLack 4 none, Cond.methodLink RX0 44 yX0_lessenLack, Cond.instanceMethod yX0_lessenLack, Cond.selects RX0 yX0_lessenLack yX0_lessenLack, Cond.code yX0_lessenLack cX0_lessenLack 3 none, Cond.fieldLink RX0 24 "BlueCoats$Chest" "ends" "[I", Cond.fieldLink RX0 21 "BlueCoats$Chest" "coins" "[I", Cond.methodLink RX0 37 yX0_planLegacies, Cond.instanceMethod yX0_planLegacies, Cond.selects RX0 yX0_planLegacies yX0_planLegacies]
def wsX0_plan_r2 : List Cond := [Cond.code yX0_planLegacies cX0_planLegacies 5 none, Cond.fieldLink RX0 18 "BlueCoats$Chest" "fromLegacy" "[I", Cond.methodLink RX0 54 yX0_greatestLack, Cond.instanceMethod yX0_greatestLack, Cond.selects RX0 yX0_greatestLack yX0_greatestLack, Cond.code yX0_greatestLack cX0_greatestLack 3 (some .int), Cond.methodLink RX0 58 Lib.Math.max.name, Cond.static Lib.Math.max.name, Cond.initialized "java/lang/Math", Cond.code Lib.Math.max.name Lib.Math.max.code 2 (some .int)]
def wsX0_plan : List Cond := .code yX0_plan cX0_plan 1 none :: ((wsX0_plan_r1 ++ wsX0_plan_r2) ++ wsX00)
def wsX0_payPlanned : List Cond := .code yX0_payPlanned cX0_payPlanned 3 (some .int) :: ([.fieldLink RX0 11 "BlueCoats$Chest" "need" "[I", .fieldLink RX0 15 "BlueCoats$Chest" "toEnd" "[I", .fieldLink RX0 30 "BlueCoats$Chest" "number" "I", .fieldLink RX0 21 "BlueCoats$Chest" "coins" "[I", .fieldLink RX0 18 "BlueCoats$Chest" "fromLegacy" "[I"] ++ wsX00)
def wsX1_init : List Cond := .code yX1_init cX1_init 1 none :: ([.methodLink RX1 3 objectInit, .instanceMethod objectInit, .code objectInit ⟨#[0xb1]⟩ 1 none, .arrayClass .int, .fieldLink RX1 11 "BlueCoats$Children" "age" "[I", .fieldLink RX1 15 "BlueCoats$Children" "need" "[I", .fieldLink RX1 18 "BlueCoats$Children" "size" "[I", .fieldLink RX1 21 "BlueCoats$Children" "growth" "[I", .fieldLink RX1 24 "BlueCoats$Children" "state" "[I", .fieldLink RX1 27 "BlueCoats$Children" "coat" "[I"] ++ wsX10)
def wsX1_has : List Cond := .code yX1_has cX1_has 2 (some .boolean) :: ([.fieldLink RX1 30 "BlueCoats$Children" "number" "I"] ++ wsX10)
def wsX1_canBe : List Cond := .code yX1_canBe cX1_canBe 4 (some .boolean) :: ([])
def wsX1_add : List Cond := .code yX1_add cX1_add 5 (some .int) :: ([.fieldLink RX1 30 "BlueCoats$Children" "number" "I", .fieldLink RX1 11 "BlueCoats$Children" "age" "[I", .fieldLink RX1 15 "BlueCoats$Children" "need" "[I", .fieldLink RX1 18 "BlueCoats$Children" "size" "[I", .fieldLink RX1 21 "BlueCoats$Children" "growth" "[I", .fieldLink RX1 24 "BlueCoats$Children" "state" "[I", .fieldLink RX1 27 "BlueCoats$Children" "coat" "[I", .methodLink RX1 34 yX1_canBe, .static yX1_canBe, .initialized RX1, .code yX1_canBe cX1_canBe 4 (some .boolean)] ++ wsX10)
def wsX1_in : List Cond := .code yX1_in cX1_in 3 (some .int) :: ([.fieldLink RX1 30 "BlueCoats$Children" "number" "I", .fieldLink RX1 24 "BlueCoats$Children" "state" "[I"] ++ wsX10)
def wsX1_grow : List Cond := .code yX1_grow cX1_grow 2 none :: ([.fieldLink RX1 11 "BlueCoats$Children" "age" "[I", .methodLink RX1 42 Lib.Math.min.name, .static Lib.Math.min.name, .initialized "java/lang/Math", .code Lib.Math.min.name Lib.Math.min.code 2 (some .int), .fieldLink RX1 18 "BlueCoats$Children" "size" "[I", .fieldLink RX1 21 "BlueCoats$Children" "growth" "[I", .methodLink RX1 38 yX1_has, .instanceMethod yX1_has, .selects RX1 yX1_has yX1_has, .initialized RX1, .code yX1_has cX1_has 2 (some .boolean), .fieldLink RX1 30 "BlueCoats$Children" "number" "I"] ++ wsX10)
def wsX2_init : List Cond := .code yX2_init cX2_init 1 none :: ([.methodLink RX2 3 objectInit, .instanceMethod objectInit, .code objectInit ⟨#[0xb1]⟩ 1 none, .arrayClass .int, .fieldLink RX2 11 "BlueCoats$Dressing" "guest" "[I", .fieldLink RX2 15 "BlueCoats$Dressing" "given" "[I", .fieldLink RX2 18 "BlueCoats$Dressing" "size" "[I", .arrayClass .long, .fieldLink RX2 21 "BlueCoats$Dressing" "fitting" "[J"] ++ wsX20)
def wsX2_gather : List Cond := .code yX2_gather cX2_gather 3 none :: ([.fieldLink RX2 39 "BlueCoats$Dressing" "guests" "I", .fieldLink RX2 52 "BlueCoats$Children" "number" "I", .fieldLink RX2 57 "BlueCoats$Children" "state" "[I", .fieldLink RX2 11 "BlueCoats$Dressing" "guest" "[I", .fieldLink RX2 18 "BlueCoats$Dressing" "size" "[I", .fieldLink RX2 60 "BlueCoats$Children" "size" "[I"] ++ wsX20 ++ wsX10)
def wsX6_fitting : List Cond := .code yX6_fitting cX6_fitting 6 (some .long) :: ([.fieldLink RX6 25 "BlueCoats$Wardrobe" "number" "I", .fieldLink RX6 18 "BlueCoats$Wardrobe" "gone" "[Z", .fieldLink RX6 11 "BlueCoats$Wardrobe" "size" "[I"] ++ wsX60)
def wsX2_measure : List Cond := .code yX2_measure cX2_measure 7 none :: ([.fieldLink RX2 21 "BlueCoats$Dressing" "fitting" "[J", .fieldLink RX2 39 "BlueCoats$Dressing" "guests" "I", .fieldLink RX2 18 "BlueCoats$Dressing" "size" "[I", .methodLink RX2 61 yX6_fitting, .instanceMethod yX6_fitting, .selects RX6 yX6_fitting yX6_fitting, .initialized RX6, .code yX6_fitting cX6_fitting 6 (some .long), .fieldLink RX6 25 "BlueCoats$Wardrobe" "number" "I", .fieldLink RX6 18 "BlueCoats$Wardrobe" "gone" "[Z", .fieldLink RX6 11 "BlueCoats$Wardrobe" "size" "[I"] ++ wsX20 ++ wsX60)
def wsX2_greatestBut : List Cond := .code yX2_greatestBut cX2_greatestBut 5 (some .int) :: ([.fieldLink RX2 39 "BlueCoats$Dressing" "guests" "I", .fieldLink RX2 18 "BlueCoats$Dressing" "size" "[I"] ++ wsX20)
def wsJ13_bitCount_95d88 : List Cond := .code yJ13_bitCount_95d88 cJ13_bitCount_95d88 2 (some .int) :: ([.constantLong RJ13 314 (6148914691236517205), .constantLong RJ13 316 (3689348814741910323), .constantLong RJ13 318 (1085102592571150095)])
def wsJ6_bitCount_0f7a4 : List Cond := .code yJ6_bitCount_0f7a4 cJ6_bitCount_0f7a4 1 (some .int) :: ([.constant RJ6 265 (1431655765), .constant RJ6 266 (858993459), .constant RJ6 267 (252645135)])
def wsX2_canDress : List Cond := .code yX2_canDress cX2_canDress 3 (some .boolean) :: ([.fieldLink RX2 39 "BlueCoats$Dressing" "guests" "I", .fieldLink RX2 21 "BlueCoats$Dressing" "fitting" "[J", .methodLink RX2 73 yJ13_bitCount_95d88, .static yJ13_bitCount_95d88, .initialized RJ13, .code yJ13_bitCount_95d88 cJ13_bitCount_95d88 2 (some .int), .constantLong RJ13 314 (6148914691236517205), .constantLong RJ13 316 (3689348814741910323), .constantLong RJ13 318 (1085102592571150095), .methodLink RX2 46 yJ6_bitCount_0f7a4, .static yJ6_bitCount_0f7a4, .initialized RJ6, .code yJ6_bitCount_0f7a4 cJ6_bitCount_0f7a4 1 (some .int), .constant RJ6 265 (1431655765), .constant RJ6 266 (858993459), .constant RJ6 267 (252645135)] ++ wsX20)
def wsX2_chooseDressed_r1 : List Cond := [Cond.fieldLink RX2 43 "BlueCoats$Dressing" "dressed" "I", Cond.fieldLink RX2 39 "BlueCoats$Dressing" "guests" "I", Cond.methodLink RX2 66 yX2_greatestBut, Cond.instanceMethod yX2_greatestBut, Cond.selects RX2 yX2_greatestBut yX2_greatestBut, Cond.initialized RX2, Cond.code yX2_greatestBut cX2_greatestBut 5 (some .int), Cond.fieldLink RX2 18 "BlueCoats$Dressing" "size" "[I", Cond.methodLink RX2 69 yX2_canDress, Cond.instanceMethod yX2_canDress, Cond.selects RX2 yX2_canDress yX2_canDress, Cond.code yX2_canDress cX2_canDress 3 (some .boolean), Cond.fieldLink RX2 21 "BlueCoats$Dressing" "fitting" "[J", Cond.methodLink RX2 73 yJ13_bitCount_95d88, Cond.static yJ13_bitCount_95d88, Cond.initialized RJ13, Cond.code yJ13_bitCount_95d88 cJ13_bitCount_95d88 2 (some .int), Cond.constantLong RJ13 314 (6148914691236517205), Cond.constantLong RJ13 316 (3689348814741910323), Cond.constantLong RJ13 318 (1085102592571150095), Cond.methodLink RX2 46 yJ6_bitCount_0f7a4, Cond.static yJ6_bitCount_0f7a4, Cond.initialized RJ6, Cond.code yJ6_bitCount_0f7a4 cJ6_bitCount_0f7a4 1 (some .int)]
def wsX2_chooseDressed_r2 : List Cond := [Cond.constant RJ6 265 (1431655765), Cond.constant RJ6 266 (858993459), Cond.constant RJ6 267 (252645135)]
def wsX2_chooseDressed : List Cond := .code yX2_chooseDressed cX2_chooseDressed 4 none :: ((wsX2_chooseDressed_r1 ++ wsX2_chooseDressed_r2) ++ wsX20)
def wsX2_neededBy : List Cond := .code yX2_neededBy cX2_neededBy 9 (some .long) :: ([.fieldLink RX2 39 "BlueCoats$Dressing" "guests" "I", .fieldLink RX2 21 "BlueCoats$Dressing" "fitting" "[J", .methodLink RX2 73 yJ13_bitCount_95d88, .static yJ13_bitCount_95d88, .initialized RJ13, .code yJ13_bitCount_95d88 cJ13_bitCount_95d88 2 (some .int), .constantLong RJ13 314 (6148914691236517205), .constantLong RJ13 316 (3689348814741910323), .constantLong RJ13 318 (1085102592571150095), .methodLink RX2 46 yJ6_bitCount_0f7a4, .static yJ6_bitCount_0f7a4, .initialized RJ6, .code yJ6_bitCount_0f7a4 cJ6_bitCount_0f7a4 1 (some .int), .constant RJ6 265 (1431655765), .constant RJ6 266 (858993459), .constant RJ6 267 (252645135)] ++ wsX20)
def wsX2_leastOf : List Cond := .code yX2_leastOf cX2_leastOf 3 (some .int) :: ([])
def wsX2_chooseCoats_r1 : List Cond := [Cond.fieldLink RX2 21 "BlueCoats$Dressing" "fitting" "[J", Cond.fieldLink RX2 39 "BlueCoats$Dressing" "guests" "I", Cond.fieldLink RX2 15 "BlueCoats$Dressing" "given" "[I", Cond.fieldLink RX2 43 "BlueCoats$Dressing" "dressed" "I", Cond.constantLong RX2 82 (-1), Cond.methodLink RX2 78 yX2_neededBy, Cond.instanceMethod yX2_neededBy, Cond.selects RX2 yX2_neededBy yX2_neededBy, Cond.initialized RX2, Cond.code yX2_neededBy cX2_neededBy 9 (some .long), Cond.methodLink RX2 73 yJ13_bitCount_95d88, Cond.static yJ13_bitCount_95d88, Cond.initialized RJ13, Cond.code yJ13_bitCount_95d88 cJ13_bitCount_95d88 2 (some .int), Cond.constantLong RJ13 314 (6148914691236517205), Cond.constantLong RJ13 316 (3689348814741910323), Cond.constantLong RJ13 318 (1085102592571150095), Cond.methodLink RX2 46 yJ6_bitCount_0f7a4, Cond.static yJ6_bitCount_0f7a4, Cond.initialized RJ6, Cond.code yJ6_bitCount_0f7a4 cJ6_bitCount_0f7a4 1 (some .int), Cond.constant RJ6 265 (1431655765), Cond.constant RJ6 266 (858993459), Cond.constant RJ6 267 (252645135)]
def wsX2_chooseCoats_r2 : List Cond := [Cond.methodLink RX2 84 yX2_leastOf, Cond.static yX2_leastOf, Cond.code yX2_leastOf cX2_leastOf 3 (some .int)]
def wsX2_chooseCoats : List Cond := .code yX2_chooseCoats cX2_chooseCoats 7 none :: ((wsX2_chooseCoats_r1 ++ wsX2_chooseCoats_r2) ++ wsX20)
def wsX2_plan_r1 : List Cond := [Cond.methodLink RX2 25 yX2_gather, Cond.instanceMethod yX2_gather, Cond.selects RX2 yX2_gather yX2_gather, Cond.initialized RX2, Cond.code yX2_gather cX2_gather 3 none, Cond.fieldLink RX2 39 "BlueCoats$Dressing" "guests" "I", Cond.fieldLink RX2 52 "BlueCoats$Children" "number" "I", Cond.fieldLink RX2 57 "BlueCoats$Children" "state" "[I", Cond.fieldLink RX2 11 "BlueCoats$Dressing" "guest" "[I", Cond.fieldLink RX2 18 "BlueCoats$Dressing" "size" "[I", Cond.fieldLink RX2 60 "BlueCoats$Children" "size" "[I", Cond.methodLink RX2 29 yX2_measure, Cond.instanceMethod yX2_measure, Cond.selects RX2 yX2_measure yX2_measure, Cond.code yX2_measure cX2_measure 7 none, Cond.fieldLink RX2 21 "BlueCoats$Dressing" "fitting" "[J", Cond.methodLink RX2 61 yX6_fitting, Cond.instanceMethod yX6_fitting, Cond.selects RX6 yX6_fitting yX6_fitting, Cond.initialized RX6, Cond.code yX6_fitting cX6_fitting 6 (some .long), Cond.fieldLink RX6 25 "BlueCoats$Wardrobe" "number" "I", Cond.fieldLink RX6 18 "BlueCoats$Wardrobe" "gone" "[Z", Cond.fieldLink RX6 11 "BlueCoats$Wardrobe" "size" "[I"]
def wsX2_plan_r2 : List Cond := [Cond.methodLink RX2 33 yX2_chooseDressed, Cond.instanceMethod yX2_chooseDressed, Cond.selects RX2 yX2_chooseDressed yX2_chooseDressed, Cond.code yX2_chooseDressed cX2_chooseDressed 4 none, Cond.fieldLink RX2 43 "BlueCoats$Dressing" "dressed" "I", Cond.methodLink RX2 66 yX2_greatestBut, Cond.instanceMethod yX2_greatestBut, Cond.selects RX2 yX2_greatestBut yX2_greatestBut, Cond.code yX2_greatestBut cX2_greatestBut 5 (some .int), Cond.methodLink RX2 69 yX2_canDress, Cond.instanceMethod yX2_canDress, Cond.selects RX2 yX2_canDress yX2_canDress, Cond.code yX2_canDress cX2_canDress 3 (some .boolean), Cond.methodLink RX2 73 yJ13_bitCount_95d88, Cond.static yJ13_bitCount_95d88, Cond.initialized RJ13, Cond.code yJ13_bitCount_95d88 cJ13_bitCount_95d88 2 (some .int), Cond.constantLong RJ13 314 (6148914691236517205), Cond.constantLong RJ13 316 (3689348814741910323), Cond.constantLong RJ13 318 (1085102592571150095), Cond.methodLink RX2 46 yJ6_bitCount_0f7a4, Cond.static yJ6_bitCount_0f7a4, Cond.initialized RJ6, Cond.code yJ6_bitCount_0f7a4 cJ6_bitCount_0f7a4 1 (some .int)]
def wsX2_plan_r3 : List Cond := [Cond.constant RJ6 265 (1431655765), Cond.constant RJ6 266 (858993459), Cond.constant RJ6 267 (252645135), Cond.methodLink RX2 36 yX2_chooseCoats, Cond.instanceMethod yX2_chooseCoats, Cond.selects RX2 yX2_chooseCoats yX2_chooseCoats, Cond.code yX2_chooseCoats cX2_chooseCoats 7 none, Cond.fieldLink RX2 15 "BlueCoats$Dressing" "given" "[I", Cond.constantLong RX2 82 (-1), Cond.methodLink RX2 78 yX2_neededBy, Cond.instanceMethod yX2_neededBy, Cond.selects RX2 yX2_neededBy yX2_neededBy, Cond.code yX2_neededBy cX2_neededBy 9 (some .long), Cond.methodLink RX2 84 yX2_leastOf, Cond.static yX2_leastOf, Cond.code yX2_leastOf cX2_leastOf 3 (some .int)]
def wsX2_plan : List Cond := .code yX2_plan cX2_plan 4 none :: ((wsX2_plan_r1 ++ (wsX2_plan_r2 ++ wsX2_plan_r3)) ++ wsX20 ++ wsX10 ++ wsX60)
def wsX2_newCoats : List Cond := .code yX2_newCoats cX2_newCoats 1 (some .int) :: ([.fieldLink RX2 39 "BlueCoats$Dressing" "guests" "I", .fieldLink RX2 43 "BlueCoats$Dressing" "dressed" "I", .methodLink RX2 46 yJ6_bitCount_0f7a4, .static yJ6_bitCount_0f7a4, .initialized RJ6, .code yJ6_bitCount_0f7a4 cJ6_bitCount_0f7a4 1 (some .int), .constant RJ6 265 (1431655765), .constant RJ6 266 (858993459), .constant RJ6 267 (252645135)] ++ wsX20)
def wsX3_init : List Cond := .code yX3_init cX3_init 1 none :: ([.methodLink RX3 3 objectInit, .instanceMethod objectInit, .code objectInit ⟨#[0xb1]⟩ 1 none, .arrayClass .int, .fieldLink RX3 11 "BlueCoats$Givers" "gave" "[I", .fieldLink RX3 15 "BlueCoats$Givers" "supported" "[I"] ++ wsX30)
def wsX3_has : List Cond := .code yX3_has cX3_has 2 (some .boolean) :: ([.fieldLink RX3 18 "BlueCoats$Givers" "number" "I"] ++ wsX30)
def wsX3_add : List Cond := .code yX3_add cX3_add 1 (some .int) :: ([.fieldLink RX3 18 "BlueCoats$Givers" "number" "I", .fieldLink RX3 11 "BlueCoats$Givers" "gave" "[I", .fieldLink RX3 15 "BlueCoats$Givers" "supported" "[I"] ++ wsX30)
def wsX3_take : List Cond := .code yX3_take cX3_take 3 (some .int) :: ([.constant RX3 26 (99999), .fieldLink RX3 11 "BlueCoats$Givers" "gave" "[I", .methodLink RX3 22 yX3_has, .instanceMethod yX3_has, .selects RX3 yX3_has yX3_has, .initialized RX3, .code yX3_has cX3_has 2 (some .boolean), .fieldLink RX3 18 "BlueCoats$Givers" "number" "I"] ++ wsX30)
def wsX3_childOf : List Cond := .code yX3_childOf cX3_childOf 2 (some .int) :: ([.fieldLink RX3 15 "BlueCoats$Givers" "supported" "[I", .methodLink RX3 22 yX3_has, .instanceMethod yX3_has, .selects RX3 yX3_has yX3_has, .initialized RX3, .code yX3_has cX3_has 2 (some .boolean), .fieldLink RX3 18 "BlueCoats$Givers" "number" "I"] ++ wsX30)
def wsX3_votesFor : List Cond := .code yX3_votesFor cX3_votesFor 5 (some .int) :: ([.fieldLink RX3 18 "BlueCoats$Givers" "number" "I", .fieldLink RX3 15 "BlueCoats$Givers" "supported" "[I", .fieldLink RX3 11 "BlueCoats$Givers" "gave" "[I"] ++ wsX30)
def wsX5_sayNothing : List Cond := .code yX5_sayNothing cX5_sayNothing 1 none :: ([.fieldLink RX5 11 "BlueCoats$Statutes" "cycle" "[I", .fieldLink RX5 18 "BlueCoats$Statutes" "ways" "I", .fieldLink RX5 22 "BlueCoats$Statutes" "next" "I", .fieldLink RX5 25 "BlueCoats$Statutes" "vote" "I", .fieldLink RX5 28 "BlueCoats$Statutes" "ageFrom" "I", .fieldLink RX5 31 "BlueCoats$Statutes" "ageTo" "I", .fieldLink RX5 34 "BlueCoats$Statutes" "wear" "I", .fieldLink RX5 37 "BlueCoats$Statutes" "spare" "I", .fieldLink RX5 40 "BlueCoats$Statutes" "places" "I"] ++ wsX50)
def wsX5_init : List Cond := .code yX5_init cX5_init 1 none :: ([.methodLink RX5 3 objectInit, .instanceMethod objectInit, .code objectInit ⟨#[0xb1]⟩ 1 none, .arrayClass .int, .fieldLink RX5 11 "BlueCoats$Statutes" "cycle" "[I", .methodLink RX5 15 yX5_sayNothing, .instanceMethod yX5_sayNothing, .selects RX5 yX5_sayNothing yX5_sayNothing, .initialized RX5, .code yX5_sayNothing cX5_sayNothing 1 none, .fieldLink RX5 18 "BlueCoats$Statutes" "ways" "I", .fieldLink RX5 22 "BlueCoats$Statutes" "next" "I", .fieldLink RX5 25 "BlueCoats$Statutes" "vote" "I", .fieldLink RX5 28 "BlueCoats$Statutes" "ageFrom" "I", .fieldLink RX5 31 "BlueCoats$Statutes" "ageTo" "I", .fieldLink RX5 34 "BlueCoats$Statutes" "wear" "I", .fieldLink RX5 37 "BlueCoats$Statutes" "spare" "I", .fieldLink RX5 40 "BlueCoats$Statutes" "places" "I"] ++ wsX50)
def wsX4_init_r1 : List Cond := [Cond.methodLink RX4 3 objectInit, Cond.instanceMethod objectInit, Cond.code objectInit ⟨#[0xb1]⟩ 1 none, Cond.classLink RX4 9 RX5, Cond.instantiable RX5 9, Cond.initialized RX5, Cond.fieldLink RX4 12 "BlueCoats$Reader" "draft" "LBlueCoats$Statutes;", Cond.fieldLink RX4 18 "BlueCoats$Reader" "fault" "I", Cond.fieldLink RX4 22 "BlueCoats$Reader" "faultPlace" "I", Cond.arrayClass .byte, Cond.fieldLink RX4 25 "BlueCoats$Reader" "tape" "[B", Cond.methodLink RX4 11 yX5_init, Cond.instanceMethod yX5_init, Cond.code yX5_init cX5_init 1 none, Cond.methodLink RX5 3 objectInit, Cond.arrayClass .int, Cond.fieldLink RX5 11 "BlueCoats$Statutes" "cycle" "[I", Cond.methodLink RX5 15 yX5_sayNothing, Cond.instanceMethod yX5_sayNothing, Cond.selects RX5 yX5_sayNothing yX5_sayNothing, Cond.code yX5_sayNothing cX5_sayNothing 1 none, Cond.fieldLink RX5 18 "BlueCoats$Statutes" "ways" "I", Cond.fieldLink RX5 22 "BlueCoats$Statutes" "next" "I", Cond.fieldLink RX5 25 "BlueCoats$Statutes" "vote" "I"]
def wsX4_init_r2 : List Cond := [Cond.fieldLink RX5 28 "BlueCoats$Statutes" "ageFrom" "I", Cond.fieldLink RX5 31 "BlueCoats$Statutes" "ageTo" "I", Cond.fieldLink RX5 34 "BlueCoats$Statutes" "wear" "I", Cond.fieldLink RX5 37 "BlueCoats$Statutes" "spare" "I", Cond.fieldLink RX5 40 "BlueCoats$Statutes" "places" "I"]
def wsX4_init : List Cond := .code yX4_init cX4_init 1 none :: ((wsX4_init_r1 ++ wsX4_init_r2) ++ wsX50 ++ wsX40)
def wsX4_append : List Cond := .code yX4_append cX4_append 3 none :: ([.fieldLink RX4 29 "BlueCoats$Reader" "taped" "I", .fieldLink RX4 25 "BlueCoats$Reader" "tape" "[B"] ++ wsX40)
def wsX4_signAt : List Cond := .code yX4_signAt cX4_signAt 2 (some .int) :: ([.fieldLink RX4 38 "BlueCoats$Reader" "length" "I", .fieldLink RX4 25 "BlueCoats$Reader" "tape" "[B"] ++ wsX40)
def wsX4_isBlank : List Cond := .code yX4_isBlank cX4_isBlank 1 (some .boolean) :: ([])
def wsX4_isLetter : List Cond := .code yX4_isLetter cX4_isLetter 1 (some .boolean) :: ([])
def wsX4_isDigit : List Cond := .code yX4_isDigit cX4_isDigit 1 (some .boolean) :: ([])
def wsX4_scanDigits : List Cond := .code yX4_scanDigits cX4_scanDigits 1 none :: ([.fieldLink RX4 113 "BlueCoats$Reader" "value" "I", .fieldLink RX4 41 "BlueCoats$Reader" "end" "I", .fieldLink RX4 38 "BlueCoats$Reader" "length" "I", .constant RX4 156 (100000), .methodLink RX4 32 Lib.Math.min.name, .static Lib.Math.min.name, .initialized "java/lang/Math", .code Lib.Math.min.name Lib.Math.min.code 2 (some .int), .methodLink RX4 135 yX4_signAt, .instanceMethod yX4_signAt, .selects RX4 yX4_signAt yX4_signAt, .initialized RX4, .code yX4_signAt cX4_signAt 2 (some .int), .fieldLink RX4 25 "BlueCoats$Reader" "tape" "[B", .methodLink RX4 150 yX4_isDigit, .static yX4_isDigit, .code yX4_isDigit cX4_isDigit 1 (some .boolean)] ++ wsX40)
def wsX4_advance_r1 : List Cond := [Cond.fieldLink RX4 41 "BlueCoats$Reader" "end" "I", Cond.fieldLink RX4 67 "BlueCoats$Reader" "start" "I", Cond.fieldLink RX4 38 "BlueCoats$Reader" "length" "I", Cond.fieldLink RX4 53 "BlueCoats$Reader" "kind" "I", Cond.methodLink RX4 135 yX4_signAt, Cond.instanceMethod yX4_signAt, Cond.selects RX4 yX4_signAt yX4_signAt, Cond.initialized RX4, Cond.code yX4_signAt cX4_signAt 2 (some .int), Cond.fieldLink RX4 25 "BlueCoats$Reader" "tape" "[B", Cond.methodLink RX4 143 yX4_isBlank, Cond.static yX4_isBlank, Cond.code yX4_isBlank cX4_isBlank 1 (some .boolean), Cond.methodLink RX4 147 yX4_isLetter, Cond.static yX4_isLetter, Cond.code yX4_isLetter cX4_isLetter 1 (some .boolean), Cond.methodLink RX4 150 yX4_isDigit, Cond.static yX4_isDigit, Cond.code yX4_isDigit cX4_isDigit 1 (some .boolean), Cond.methodLink RX4 153 yX4_scanDigits, Cond.instanceMethod yX4_scanDigits, Cond.selects RX4 yX4_scanDigits yX4_scanDigits, Cond.code yX4_scanDigits cX4_scanDigits 1 none, Cond.fieldLink RX4 113 "BlueCoats$Reader" "value" "I"]
def wsX4_advance_r2 : List Cond := [Cond.constant RX4 156 (100000), Cond.methodLink RX4 32 Lib.Math.min.name, Cond.static Lib.Math.min.name, Cond.initialized "java/lang/Math", Cond.code Lib.Math.min.name Lib.Math.min.code 2 (some .int)]
def wsX4_advance : List Cond := .code yX4_advance cX4_advance 2 none :: ((wsX4_advance_r1 ++ wsX4_advance_r2) ++ wsX40)
def wsJ0_coder_7d493 : List Cond := .code yJ0_coder_7d493 cJ0_coder_7d493 1 (some .byte) :: ([.fieldLink RJ0 38 "java/lang/String" "COMPACT_STRINGS" "Z", .fieldLink RJ0 15 "java/lang/String" "coder" "B"])
def wsJ0_length_8abf5 : List Cond := .code yJ0_length_8abf5 cJ0_length_8abf5 1 (some .int) :: ([.fieldLink RJ0 9 "java/lang/String" "value" "[B", .methodLink RJ0 335 yJ0_coder_7d493, .instanceMethod yJ0_coder_7d493, .selects RJ0 yJ0_coder_7d493 yJ0_coder_7d493, .initialized RJ0, .code yJ0_coder_7d493 cJ0_coder_7d493 1 (some .byte), .fieldLink RJ0 38 "java/lang/String" "COMPACT_STRINGS" "Z", .fieldLink RJ0 15 "java/lang/String" "coder" "B"])
def wsJ0_isLatin1_aae02 : List Cond := .code yJ0_isLatin1_aae02 cJ0_isLatin1_aae02 1 (some .boolean) :: ([.fieldLink RJ0 38 "java/lang/String" "COMPACT_STRINGS" "Z", .fieldLink RJ0 15 "java/lang/String" "coder" "B"])
def wsJ3_checkIndex_8e157 : List Cond := .code yJ3_checkIndex_8e157 cJ3_checkIndex_8e157 3 (some .int) :: ([])
def wsJ0_checkIndex_df160 : List Cond := .code yJ0_checkIndex_df160 cJ0_checkIndex_df160 2 none :: ([.fieldLink RJ0 1053 "jdk/internal/util/Preconditions" "SIOOBE_FORMATTER" "Ljava/util/function/BiFunction;", .methodLink RJ0 1059 yJ3_checkIndex_8e157, .static yJ3_checkIndex_8e157, .initialized RJ3, .code yJ3_checkIndex_8e157 cJ3_checkIndex_8e157 3 (some .int)])
def wsJ1_charAt_3b067 : List Cond := .code yJ1_charAt_3b067 cJ1_charAt_3b067 2 (some .char) :: ([.methodLink RJ1 9 yJ0_checkIndex_df160, .static yJ0_checkIndex_df160, .initialized RJ0, .code yJ0_checkIndex_df160 cJ0_checkIndex_df160 2 none, .fieldLink RJ0 1053 "jdk/internal/util/Preconditions" "SIOOBE_FORMATTER" "Ljava/util/function/BiFunction;", .methodLink RJ0 1059 yJ3_checkIndex_8e157, .static yJ3_checkIndex_8e157, .initialized RJ3, .code yJ3_checkIndex_8e157 cJ3_checkIndex_8e157 3 (some .int)])
def wsJ2_length_9d52b : List Cond := .code yJ2_length_9d52b cJ2_length_9d52b 1 (some .int) :: ([])
def wsJ2_checkIndex_2214a : List Cond := .code yJ2_checkIndex_2214a cJ2_checkIndex_2214a 2 none :: ([.methodLink RJ2 48 yJ2_length_9d52b, .static yJ2_length_9d52b, .initialized RJ2, .code yJ2_length_9d52b cJ2_length_9d52b 1 (some .int), .methodLink RJ2 414 yJ0_checkIndex_df160, .static yJ0_checkIndex_df160, .initialized RJ0, .code yJ0_checkIndex_df160 cJ0_checkIndex_df160 2 none, .fieldLink RJ0 1053 "jdk/internal/util/Preconditions" "SIOOBE_FORMATTER" "Ljava/util/function/BiFunction;", .methodLink RJ0 1059 yJ3_checkIndex_8e157, .static yJ3_checkIndex_8e157, .initialized RJ3, .code yJ3_checkIndex_8e157 cJ3_checkIndex_8e157 3 (some .int)])
def wsJ2_getChar_3b067 : List Cond := .code yJ2_getChar_3b067 cJ2_getChar_3b067 2 (some .char) :: ([.fieldLink RJ2 44 "java/lang/StringUTF16" "$assertionsDisabled" "Z", .fieldLink RJ2 59 "java/lang/StringUTF16" "HI_BYTE_SHIFT" "I", .fieldLink RJ2 63 "java/lang/StringUTF16" "LO_BYTE_SHIFT" "I", .methodLink RJ2 48 yJ2_length_9d52b, .static yJ2_length_9d52b, .initialized RJ2, .code yJ2_length_9d52b cJ2_length_9d52b 1 (some .int)])
def wsJ2_charAt_3b067 : List Cond := .code yJ2_charAt_3b067 cJ2_charAt_3b067 2 (some .char) :: ([.methodLink RJ2 67 yJ2_checkIndex_2214a, .static yJ2_checkIndex_2214a, .initialized RJ2, .code yJ2_checkIndex_2214a cJ2_checkIndex_2214a 2 none, .methodLink RJ2 48 yJ2_length_9d52b, .static yJ2_length_9d52b, .code yJ2_length_9d52b cJ2_length_9d52b 1 (some .int), .methodLink RJ2 414 yJ0_checkIndex_df160, .static yJ0_checkIndex_df160, .initialized RJ0, .code yJ0_checkIndex_df160 cJ0_checkIndex_df160 2 none, .fieldLink RJ0 1053 "jdk/internal/util/Preconditions" "SIOOBE_FORMATTER" "Ljava/util/function/BiFunction;", .methodLink RJ0 1059 yJ3_checkIndex_8e157, .static yJ3_checkIndex_8e157, .initialized RJ3, .code yJ3_checkIndex_8e157 cJ3_checkIndex_8e157 3 (some .int), .methodLink RJ2 71 yJ2_getChar_3b067, .static yJ2_getChar_3b067, .code yJ2_getChar_3b067 cJ2_getChar_3b067 2 (some .char), .fieldLink RJ2 44 "java/lang/StringUTF16" "$assertionsDisabled" "Z", .fieldLink RJ2 59 "java/lang/StringUTF16" "HI_BYTE_SHIFT" "I", .fieldLink RJ2 63 "java/lang/StringUTF16" "LO_BYTE_SHIFT" "I"])
def wsJ0_charAt_5068e_r1 : List Cond := [Cond.fieldLink RJ0 9 "java/lang/String" "value" "[B", Cond.methodLink RJ0 492 yJ0_isLatin1_aae02, Cond.instanceMethod yJ0_isLatin1_aae02, Cond.selects RJ0 yJ0_isLatin1_aae02 yJ0_isLatin1_aae02, Cond.initialized RJ0, Cond.code yJ0_isLatin1_aae02 cJ0_isLatin1_aae02 1 (some .boolean), Cond.fieldLink RJ0 38 "java/lang/String" "COMPACT_STRINGS" "Z", Cond.fieldLink RJ0 15 "java/lang/String" "coder" "B", Cond.methodLink RJ0 495 yJ1_charAt_3b067, Cond.static yJ1_charAt_3b067, Cond.initialized RJ1, Cond.code yJ1_charAt_3b067 cJ1_charAt_3b067 2 (some .char), Cond.methodLink RJ1 9 yJ0_checkIndex_df160, Cond.static yJ0_checkIndex_df160, Cond.code yJ0_checkIndex_df160 cJ0_checkIndex_df160 2 none, Cond.fieldLink RJ0 1053 "jdk/internal/util/Preconditions" "SIOOBE_FORMATTER" "Ljava/util/function/BiFunction;", Cond.methodLink RJ0 1059 yJ3_checkIndex_8e157, Cond.static yJ3_checkIndex_8e157, Cond.initialized RJ3, Cond.code yJ3_checkIndex_8e157 cJ3_checkIndex_8e157 3 (some .int), Cond.methodLink RJ0 498 yJ2_charAt_3b067, Cond.static yJ2_charAt_3b067, Cond.initialized RJ2, Cond.code yJ2_charAt_3b067 cJ2_charAt_3b067 2 (some .char)]
def wsJ0_charAt_5068e_r2 : List Cond := [Cond.methodLink RJ2 67 yJ2_checkIndex_2214a, Cond.static yJ2_checkIndex_2214a, Cond.code yJ2_checkIndex_2214a cJ2_checkIndex_2214a 2 none, Cond.methodLink RJ2 48 yJ2_length_9d52b, Cond.static yJ2_length_9d52b, Cond.code yJ2_length_9d52b cJ2_length_9d52b 1 (some .int), Cond.methodLink RJ2 414 yJ0_checkIndex_df160, Cond.methodLink RJ2 71 yJ2_getChar_3b067, Cond.static yJ2_getChar_3b067, Cond.code yJ2_getChar_3b067 cJ2_getChar_3b067 2 (some .char), Cond.fieldLink RJ2 44 "java/lang/StringUTF16" "$assertionsDisabled" "Z", Cond.fieldLink RJ2 59 "java/lang/StringUTF16" "HI_BYTE_SHIFT" "I", Cond.fieldLink RJ2 63 "java/lang/StringUTF16" "LO_BYTE_SHIFT" "I"]
def wsJ0_charAt_5068e : List Cond := .code yJ0_charAt_5068e cJ0_charAt_5068e 2 (some .char) :: ((wsJ0_charAt_5068e_r1 ++ wsJ0_charAt_5068e_r2))
def wsX4_isWord_r1 : List Cond := [Cond.fieldLink RX4 53 "BlueCoats$Reader" "kind" "I", Cond.fieldLink RX4 41 "BlueCoats$Reader" "end" "I", Cond.fieldLink RX4 67 "BlueCoats$Reader" "start" "I", Cond.methodLink RX4 131 yJ0_length_8abf5, Cond.instanceMethod yJ0_length_8abf5, Cond.selects RJ0 yJ0_length_8abf5 yJ0_length_8abf5, Cond.initialized RJ0, Cond.code yJ0_length_8abf5 cJ0_length_8abf5 1 (some .int), Cond.fieldLink RJ0 9 "java/lang/String" "value" "[B", Cond.methodLink RJ0 335 yJ0_coder_7d493, Cond.instanceMethod yJ0_coder_7d493, Cond.selects RJ0 yJ0_coder_7d493 yJ0_coder_7d493, Cond.code yJ0_coder_7d493 cJ0_coder_7d493 1 (some .byte), Cond.fieldLink RJ0 38 "java/lang/String" "COMPACT_STRINGS" "Z", Cond.fieldLink RJ0 15 "java/lang/String" "coder" "B", Cond.methodLink RX4 135 yX4_signAt, Cond.instanceMethod yX4_signAt, Cond.selects RX4 yX4_signAt yX4_signAt, Cond.initialized RX4, Cond.code yX4_signAt cX4_signAt 2 (some .int), Cond.fieldLink RX4 38 "BlueCoats$Reader" "length" "I", Cond.fieldLink RX4 25 "BlueCoats$Reader" "tape" "[B", Cond.methodLink RX4 139 yJ0_charAt_5068e, Cond.instanceMethod yJ0_charAt_5068e]
def wsX4_isWord_r2 : List Cond := [Cond.selects RJ0 yJ0_charAt_5068e yJ0_charAt_5068e, Cond.code yJ0_charAt_5068e cJ0_charAt_5068e 2 (some .char), Cond.methodLink RJ0 492 yJ0_isLatin1_aae02, Cond.instanceMethod yJ0_isLatin1_aae02, Cond.selects RJ0 yJ0_isLatin1_aae02 yJ0_isLatin1_aae02, Cond.code yJ0_isLatin1_aae02 cJ0_isLatin1_aae02 1 (some .boolean), Cond.methodLink RJ0 495 yJ1_charAt_3b067, Cond.static yJ1_charAt_3b067, Cond.initialized RJ1, Cond.code yJ1_charAt_3b067 cJ1_charAt_3b067 2 (some .char), Cond.methodLink RJ1 9 yJ0_checkIndex_df160, Cond.static yJ0_checkIndex_df160, Cond.code yJ0_checkIndex_df160 cJ0_checkIndex_df160 2 none, Cond.fieldLink RJ0 1053 "jdk/internal/util/Preconditions" "SIOOBE_FORMATTER" "Ljava/util/function/BiFunction;", Cond.methodLink RJ0 1059 yJ3_checkIndex_8e157, Cond.static yJ3_checkIndex_8e157, Cond.initialized RJ3, Cond.code yJ3_checkIndex_8e157 cJ3_checkIndex_8e157 3 (some .int), Cond.methodLink RJ0 498 yJ2_charAt_3b067, Cond.static yJ2_charAt_3b067, Cond.initialized RJ2, Cond.code yJ2_charAt_3b067 cJ2_charAt_3b067 2 (some .char), Cond.methodLink RJ2 67 yJ2_checkIndex_2214a, Cond.static yJ2_checkIndex_2214a]
def wsX4_isWord_r3 : List Cond := [Cond.code yJ2_checkIndex_2214a cJ2_checkIndex_2214a 2 none, Cond.methodLink RJ2 48 yJ2_length_9d52b, Cond.static yJ2_length_9d52b, Cond.code yJ2_length_9d52b cJ2_length_9d52b 1 (some .int), Cond.methodLink RJ2 414 yJ0_checkIndex_df160, Cond.methodLink RJ2 71 yJ2_getChar_3b067, Cond.static yJ2_getChar_3b067, Cond.code yJ2_getChar_3b067 cJ2_getChar_3b067 2 (some .char), Cond.fieldLink RJ2 44 "java/lang/StringUTF16" "$assertionsDisabled" "Z", Cond.fieldLink RJ2 59 "java/lang/StringUTF16" "HI_BYTE_SHIFT" "I", Cond.fieldLink RJ2 63 "java/lang/StringUTF16" "LO_BYTE_SHIFT" "I"]
def wsX4_isWord : List Cond := .code yX4_isWord cX4_isWord 3 (some .boolean) :: ((wsX4_isWord_r1 ++ (wsX4_isWord_r2 ++ wsX4_isWord_r3)) ++ wsX40)
def wsX4_lineNamed_r1 : List Cond := [Cond.methodLink RX4 117 yX4_isWord, Cond.instanceMethod yX4_isWord, Cond.selects RX4 yX4_isWord yX4_isWord, Cond.initialized RX4, Cond.code yX4_isWord cX4_isWord 3 (some .boolean), Cond.fieldLink RX4 53 "BlueCoats$Reader" "kind" "I", Cond.fieldLink RX4 41 "BlueCoats$Reader" "end" "I", Cond.fieldLink RX4 67 "BlueCoats$Reader" "start" "I", Cond.methodLink RX4 131 yJ0_length_8abf5, Cond.instanceMethod yJ0_length_8abf5, Cond.selects RJ0 yJ0_length_8abf5 yJ0_length_8abf5, Cond.initialized RJ0, Cond.code yJ0_length_8abf5 cJ0_length_8abf5 1 (some .int), Cond.fieldLink RJ0 9 "java/lang/String" "value" "[B", Cond.methodLink RJ0 335 yJ0_coder_7d493, Cond.instanceMethod yJ0_coder_7d493, Cond.selects RJ0 yJ0_coder_7d493 yJ0_coder_7d493, Cond.code yJ0_coder_7d493 cJ0_coder_7d493 1 (some .byte), Cond.fieldLink RJ0 38 "java/lang/String" "COMPACT_STRINGS" "Z", Cond.fieldLink RJ0 15 "java/lang/String" "coder" "B", Cond.methodLink RX4 135 yX4_signAt, Cond.instanceMethod yX4_signAt, Cond.selects RX4 yX4_signAt yX4_signAt, Cond.code yX4_signAt cX4_signAt 2 (some .int)]
def wsX4_lineNamed_r2 : List Cond := [Cond.fieldLink RX4 38 "BlueCoats$Reader" "length" "I", Cond.fieldLink RX4 25 "BlueCoats$Reader" "tape" "[B", Cond.methodLink RX4 139 yJ0_charAt_5068e, Cond.instanceMethod yJ0_charAt_5068e, Cond.selects RJ0 yJ0_charAt_5068e yJ0_charAt_5068e, Cond.code yJ0_charAt_5068e cJ0_charAt_5068e 2 (some .char), Cond.methodLink RJ0 492 yJ0_isLatin1_aae02, Cond.instanceMethod yJ0_isLatin1_aae02, Cond.selects RJ0 yJ0_isLatin1_aae02 yJ0_isLatin1_aae02, Cond.code yJ0_isLatin1_aae02 cJ0_isLatin1_aae02 1 (some .boolean), Cond.methodLink RJ0 495 yJ1_charAt_3b067, Cond.static yJ1_charAt_3b067, Cond.initialized RJ1, Cond.code yJ1_charAt_3b067 cJ1_charAt_3b067 2 (some .char), Cond.methodLink RJ1 9 yJ0_checkIndex_df160, Cond.static yJ0_checkIndex_df160, Cond.code yJ0_checkIndex_df160 cJ0_checkIndex_df160 2 none, Cond.fieldLink RJ0 1053 "jdk/internal/util/Preconditions" "SIOOBE_FORMATTER" "Ljava/util/function/BiFunction;", Cond.methodLink RJ0 1059 yJ3_checkIndex_8e157, Cond.static yJ3_checkIndex_8e157, Cond.initialized RJ3, Cond.code yJ3_checkIndex_8e157 cJ3_checkIndex_8e157 3 (some .int), Cond.methodLink RJ0 498 yJ2_charAt_3b067, Cond.static yJ2_charAt_3b067]
def wsX4_lineNamed_r3 : List Cond := [Cond.initialized RJ2, Cond.code yJ2_charAt_3b067 cJ2_charAt_3b067 2 (some .char), Cond.methodLink RJ2 67 yJ2_checkIndex_2214a, Cond.static yJ2_checkIndex_2214a, Cond.code yJ2_checkIndex_2214a cJ2_checkIndex_2214a 2 none, Cond.methodLink RJ2 48 yJ2_length_9d52b, Cond.static yJ2_length_9d52b, Cond.code yJ2_length_9d52b cJ2_length_9d52b 1 (some .int), Cond.methodLink RJ2 414 yJ0_checkIndex_df160, Cond.methodLink RJ2 71 yJ2_getChar_3b067, Cond.static yJ2_getChar_3b067, Cond.code yJ2_getChar_3b067 cJ2_getChar_3b067 2 (some .char), Cond.fieldLink RJ2 44 "java/lang/StringUTF16" "$assertionsDisabled" "Z", Cond.fieldLink RJ2 59 "java/lang/StringUTF16" "HI_BYTE_SHIFT" "I", Cond.fieldLink RJ2 63 "java/lang/StringUTF16" "LO_BYTE_SHIFT" "I"]
def wsX4_lineNamed : List Cond := .code yX4_lineNamed cX4_lineNamed 1 (some .int) :: ((wsX4_lineNamed_r1 ++ (wsX4_lineNamed_r2 ++ wsX4_lineNamed_r3)) ++ wsX40)
def wsX4_blame : List Cond := .code yX4_blame cX4_blame 2 none :: ([.fieldLink RX4 18 "BlueCoats$Reader" "fault" "I", .fieldLink RX4 67 "BlueCoats$Reader" "start" "I", .fieldLink RX4 22 "BlueCoats$Reader" "faultPlace" "I"] ++ wsX40)
def wsX4_begunLine_r1 : List Cond := [Cond.fieldLink RX4 44 "BlueCoats$Reader" "told" "I", Cond.methodLink RX4 70 yX4_lineNamed, Cond.instanceMethod yX4_lineNamed, Cond.selects RX4 yX4_lineNamed yX4_lineNamed, Cond.initialized RX4, Cond.code yX4_lineNamed cX4_lineNamed 1 (some .int), Cond.methodLink RX4 117 yX4_isWord, Cond.instanceMethod yX4_isWord, Cond.selects RX4 yX4_isWord yX4_isWord, Cond.code yX4_isWord cX4_isWord 3 (some .boolean), Cond.fieldLink RX4 53 "BlueCoats$Reader" "kind" "I", Cond.fieldLink RX4 41 "BlueCoats$Reader" "end" "I", Cond.fieldLink RX4 67 "BlueCoats$Reader" "start" "I", Cond.methodLink RX4 131 yJ0_length_8abf5, Cond.instanceMethod yJ0_length_8abf5, Cond.selects RJ0 yJ0_length_8abf5 yJ0_length_8abf5, Cond.initialized RJ0, Cond.code yJ0_length_8abf5 cJ0_length_8abf5 1 (some .int), Cond.fieldLink RJ0 9 "java/lang/String" "value" "[B", Cond.methodLink RJ0 335 yJ0_coder_7d493, Cond.instanceMethod yJ0_coder_7d493, Cond.selects RJ0 yJ0_coder_7d493 yJ0_coder_7d493, Cond.code yJ0_coder_7d493 cJ0_coder_7d493 1 (some .byte), Cond.fieldLink RJ0 38 "java/lang/String" "COMPACT_STRINGS" "Z"]
def wsX4_begunLine_r2 : List Cond := [Cond.fieldLink RJ0 15 "java/lang/String" "coder" "B", Cond.methodLink RX4 135 yX4_signAt, Cond.instanceMethod yX4_signAt, Cond.selects RX4 yX4_signAt yX4_signAt, Cond.code yX4_signAt cX4_signAt 2 (some .int), Cond.fieldLink RX4 38 "BlueCoats$Reader" "length" "I", Cond.fieldLink RX4 25 "BlueCoats$Reader" "tape" "[B", Cond.methodLink RX4 139 yJ0_charAt_5068e, Cond.instanceMethod yJ0_charAt_5068e, Cond.selects RJ0 yJ0_charAt_5068e yJ0_charAt_5068e, Cond.code yJ0_charAt_5068e cJ0_charAt_5068e 2 (some .char), Cond.methodLink RJ0 492 yJ0_isLatin1_aae02, Cond.instanceMethod yJ0_isLatin1_aae02, Cond.selects RJ0 yJ0_isLatin1_aae02 yJ0_isLatin1_aae02, Cond.code yJ0_isLatin1_aae02 cJ0_isLatin1_aae02 1 (some .boolean), Cond.methodLink RJ0 495 yJ1_charAt_3b067, Cond.static yJ1_charAt_3b067, Cond.initialized RJ1, Cond.code yJ1_charAt_3b067 cJ1_charAt_3b067 2 (some .char), Cond.methodLink RJ1 9 yJ0_checkIndex_df160, Cond.static yJ0_checkIndex_df160, Cond.code yJ0_checkIndex_df160 cJ0_checkIndex_df160 2 none, Cond.fieldLink RJ0 1053 "jdk/internal/util/Preconditions" "SIOOBE_FORMATTER" "Ljava/util/function/BiFunction;", Cond.methodLink RJ0 1059 yJ3_checkIndex_8e157]
def wsX4_begunLine_r3 : List Cond := [Cond.static yJ3_checkIndex_8e157, Cond.initialized RJ3, Cond.code yJ3_checkIndex_8e157 cJ3_checkIndex_8e157 3 (some .int), Cond.methodLink RJ0 498 yJ2_charAt_3b067, Cond.static yJ2_charAt_3b067, Cond.initialized RJ2, Cond.code yJ2_charAt_3b067 cJ2_charAt_3b067 2 (some .char), Cond.methodLink RJ2 67 yJ2_checkIndex_2214a, Cond.static yJ2_checkIndex_2214a, Cond.code yJ2_checkIndex_2214a cJ2_checkIndex_2214a 2 none, Cond.methodLink RJ2 48 yJ2_length_9d52b, Cond.static yJ2_length_9d52b, Cond.code yJ2_length_9d52b cJ2_length_9d52b 1 (some .int), Cond.methodLink RJ2 414 yJ0_checkIndex_df160, Cond.methodLink RJ2 71 yJ2_getChar_3b067, Cond.static yJ2_getChar_3b067, Cond.code yJ2_getChar_3b067 cJ2_getChar_3b067 2 (some .char), Cond.fieldLink RJ2 44 "java/lang/StringUTF16" "$assertionsDisabled" "Z", Cond.fieldLink RJ2 59 "java/lang/StringUTF16" "HI_BYTE_SHIFT" "I", Cond.fieldLink RJ2 63 "java/lang/StringUTF16" "LO_BYTE_SHIFT" "I", Cond.methodLink RX4 73 yX4_blame, Cond.instanceMethod yX4_blame, Cond.selects RX4 yX4_blame yX4_blame, Cond.code yX4_blame cX4_blame 2 none]
def wsX4_begunLine_r4 : List Cond := [Cond.fieldLink RX4 18 "BlueCoats$Reader" "fault" "I", Cond.fieldLink RX4 22 "BlueCoats$Reader" "faultPlace" "I", Cond.methodLink RX4 50 yX4_advance, Cond.instanceMethod yX4_advance, Cond.selects RX4 yX4_advance yX4_advance, Cond.code yX4_advance cX4_advance 2 none, Cond.methodLink RX4 143 yX4_isBlank, Cond.static yX4_isBlank, Cond.code yX4_isBlank cX4_isBlank 1 (some .boolean), Cond.methodLink RX4 147 yX4_isLetter, Cond.static yX4_isLetter, Cond.code yX4_isLetter cX4_isLetter 1 (some .boolean), Cond.methodLink RX4 150 yX4_isDigit, Cond.static yX4_isDigit, Cond.code yX4_isDigit cX4_isDigit 1 (some .boolean), Cond.methodLink RX4 153 yX4_scanDigits, Cond.instanceMethod yX4_scanDigits, Cond.selects RX4 yX4_scanDigits yX4_scanDigits, Cond.code yX4_scanDigits cX4_scanDigits 1 none, Cond.fieldLink RX4 113 "BlueCoats$Reader" "value" "I", Cond.constant RX4 156 (100000), Cond.methodLink RX4 32 Lib.Math.min.name, Cond.static Lib.Math.min.name, Cond.initialized "java/lang/Math"]
def wsX4_begunLine_r5 : List Cond := [Cond.code Lib.Math.min.name Lib.Math.min.code 2 (some .int)]
def wsX4_begunLine : List Cond := .code yX4_begunLine cX4_begunLine 2 (some .int) :: ((wsX4_begunLine_r1 ++ (wsX4_begunLine_r2 ++ (wsX4_begunLine_r3 ++ (wsX4_begunLine_r4 ++ wsX4_begunLine_r5)))) ++ wsX40)
def wsX4_wayNamed_r1 : List Cond := [Cond.methodLink RX4 117 yX4_isWord, Cond.instanceMethod yX4_isWord, Cond.selects RX4 yX4_isWord yX4_isWord, Cond.initialized RX4, Cond.code yX4_isWord cX4_isWord 3 (some .boolean), Cond.fieldLink RX4 53 "BlueCoats$Reader" "kind" "I", Cond.fieldLink RX4 41 "BlueCoats$Reader" "end" "I", Cond.fieldLink RX4 67 "BlueCoats$Reader" "start" "I", Cond.methodLink RX4 131 yJ0_length_8abf5, Cond.instanceMethod yJ0_length_8abf5, Cond.selects RJ0 yJ0_length_8abf5 yJ0_length_8abf5, Cond.initialized RJ0, Cond.code yJ0_length_8abf5 cJ0_length_8abf5 1 (some .int), Cond.fieldLink RJ0 9 "java/lang/String" "value" "[B", Cond.methodLink RJ0 335 yJ0_coder_7d493, Cond.instanceMethod yJ0_coder_7d493, Cond.selects RJ0 yJ0_coder_7d493 yJ0_coder_7d493, Cond.code yJ0_coder_7d493 cJ0_coder_7d493 1 (some .byte), Cond.fieldLink RJ0 38 "java/lang/String" "COMPACT_STRINGS" "Z", Cond.fieldLink RJ0 15 "java/lang/String" "coder" "B", Cond.methodLink RX4 135 yX4_signAt, Cond.instanceMethod yX4_signAt, Cond.selects RX4 yX4_signAt yX4_signAt, Cond.code yX4_signAt cX4_signAt 2 (some .int)]
def wsX4_wayNamed_r2 : List Cond := [Cond.fieldLink RX4 38 "BlueCoats$Reader" "length" "I", Cond.fieldLink RX4 25 "BlueCoats$Reader" "tape" "[B", Cond.methodLink RX4 139 yJ0_charAt_5068e, Cond.instanceMethod yJ0_charAt_5068e, Cond.selects RJ0 yJ0_charAt_5068e yJ0_charAt_5068e, Cond.code yJ0_charAt_5068e cJ0_charAt_5068e 2 (some .char), Cond.methodLink RJ0 492 yJ0_isLatin1_aae02, Cond.instanceMethod yJ0_isLatin1_aae02, Cond.selects RJ0 yJ0_isLatin1_aae02 yJ0_isLatin1_aae02, Cond.code yJ0_isLatin1_aae02 cJ0_isLatin1_aae02 1 (some .boolean), Cond.methodLink RJ0 495 yJ1_charAt_3b067, Cond.static yJ1_charAt_3b067, Cond.initialized RJ1, Cond.code yJ1_charAt_3b067 cJ1_charAt_3b067 2 (some .char), Cond.methodLink RJ1 9 yJ0_checkIndex_df160, Cond.static yJ0_checkIndex_df160, Cond.code yJ0_checkIndex_df160 cJ0_checkIndex_df160 2 none, Cond.fieldLink RJ0 1053 "jdk/internal/util/Preconditions" "SIOOBE_FORMATTER" "Ljava/util/function/BiFunction;", Cond.methodLink RJ0 1059 yJ3_checkIndex_8e157, Cond.static yJ3_checkIndex_8e157, Cond.initialized RJ3, Cond.code yJ3_checkIndex_8e157 cJ3_checkIndex_8e157 3 (some .int), Cond.methodLink RJ0 498 yJ2_charAt_3b067, Cond.static yJ2_charAt_3b067]
def wsX4_wayNamed_r3 : List Cond := [Cond.initialized RJ2, Cond.code yJ2_charAt_3b067 cJ2_charAt_3b067 2 (some .char), Cond.methodLink RJ2 67 yJ2_checkIndex_2214a, Cond.static yJ2_checkIndex_2214a, Cond.code yJ2_checkIndex_2214a cJ2_checkIndex_2214a 2 none, Cond.methodLink RJ2 48 yJ2_length_9d52b, Cond.static yJ2_length_9d52b, Cond.code yJ2_length_9d52b cJ2_length_9d52b 1 (some .int), Cond.methodLink RJ2 414 yJ0_checkIndex_df160, Cond.methodLink RJ2 71 yJ2_getChar_3b067, Cond.static yJ2_getChar_3b067, Cond.code yJ2_getChar_3b067 cJ2_getChar_3b067 2 (some .char), Cond.fieldLink RJ2 44 "java/lang/StringUTF16" "$assertionsDisabled" "Z", Cond.fieldLink RJ2 59 "java/lang/StringUTF16" "HI_BYTE_SHIFT" "I", Cond.fieldLink RJ2 63 "java/lang/StringUTF16" "LO_BYTE_SHIFT" "I"]
def wsX4_wayNamed : List Cond := .code yX4_wayNamed cX4_wayNamed 1 (some .int) :: ((wsX4_wayNamed_r1 ++ (wsX4_wayNamed_r2 ++ wsX4_wayNamed_r3)) ++ wsX40)
def wsX4_readWays_r1 : List Cond := [Cond.fieldLink RX4 12 "BlueCoats$Reader" "draft" "LBlueCoats$Statutes;", Cond.fieldLink RX4 100 "BlueCoats$Statutes" "ways" "I", Cond.fieldLink RX4 103 "BlueCoats$Statutes" "cycle" "[I", Cond.methodLink RX4 97 yX4_wayNamed, Cond.instanceMethod yX4_wayNamed, Cond.selects RX4 yX4_wayNamed yX4_wayNamed, Cond.initialized RX4, Cond.code yX4_wayNamed cX4_wayNamed 1 (some .int), Cond.methodLink RX4 117 yX4_isWord, Cond.instanceMethod yX4_isWord, Cond.selects RX4 yX4_isWord yX4_isWord, Cond.code yX4_isWord cX4_isWord 3 (some .boolean), Cond.fieldLink RX4 53 "BlueCoats$Reader" "kind" "I", Cond.fieldLink RX4 41 "BlueCoats$Reader" "end" "I", Cond.fieldLink RX4 67 "BlueCoats$Reader" "start" "I", Cond.methodLink RX4 131 yJ0_length_8abf5, Cond.instanceMethod yJ0_length_8abf5, Cond.selects RJ0 yJ0_length_8abf5 yJ0_length_8abf5, Cond.initialized RJ0, Cond.code yJ0_length_8abf5 cJ0_length_8abf5 1 (some .int), Cond.fieldLink RJ0 9 "java/lang/String" "value" "[B", Cond.methodLink RJ0 335 yJ0_coder_7d493, Cond.instanceMethod yJ0_coder_7d493, Cond.selects RJ0 yJ0_coder_7d493 yJ0_coder_7d493]
def wsX4_readWays_r2 : List Cond := [Cond.code yJ0_coder_7d493 cJ0_coder_7d493 1 (some .byte), Cond.fieldLink RJ0 38 "java/lang/String" "COMPACT_STRINGS" "Z", Cond.fieldLink RJ0 15 "java/lang/String" "coder" "B", Cond.methodLink RX4 135 yX4_signAt, Cond.instanceMethod yX4_signAt, Cond.selects RX4 yX4_signAt yX4_signAt, Cond.code yX4_signAt cX4_signAt 2 (some .int), Cond.fieldLink RX4 38 "BlueCoats$Reader" "length" "I", Cond.fieldLink RX4 25 "BlueCoats$Reader" "tape" "[B", Cond.methodLink RX4 139 yJ0_charAt_5068e, Cond.instanceMethod yJ0_charAt_5068e, Cond.selects RJ0 yJ0_charAt_5068e yJ0_charAt_5068e, Cond.code yJ0_charAt_5068e cJ0_charAt_5068e 2 (some .char), Cond.methodLink RJ0 492 yJ0_isLatin1_aae02, Cond.instanceMethod yJ0_isLatin1_aae02, Cond.selects RJ0 yJ0_isLatin1_aae02 yJ0_isLatin1_aae02, Cond.code yJ0_isLatin1_aae02 cJ0_isLatin1_aae02 1 (some .boolean), Cond.methodLink RJ0 495 yJ1_charAt_3b067, Cond.static yJ1_charAt_3b067, Cond.initialized RJ1, Cond.code yJ1_charAt_3b067 cJ1_charAt_3b067 2 (some .char), Cond.methodLink RJ1 9 yJ0_checkIndex_df160, Cond.static yJ0_checkIndex_df160, Cond.code yJ0_checkIndex_df160 cJ0_checkIndex_df160 2 none]
def wsX4_readWays_r3 : List Cond := [Cond.fieldLink RJ0 1053 "jdk/internal/util/Preconditions" "SIOOBE_FORMATTER" "Ljava/util/function/BiFunction;", Cond.methodLink RJ0 1059 yJ3_checkIndex_8e157, Cond.static yJ3_checkIndex_8e157, Cond.initialized RJ3, Cond.code yJ3_checkIndex_8e157 cJ3_checkIndex_8e157 3 (some .int), Cond.methodLink RJ0 498 yJ2_charAt_3b067, Cond.static yJ2_charAt_3b067, Cond.initialized RJ2, Cond.code yJ2_charAt_3b067 cJ2_charAt_3b067 2 (some .char), Cond.methodLink RJ2 67 yJ2_checkIndex_2214a, Cond.static yJ2_checkIndex_2214a, Cond.code yJ2_checkIndex_2214a cJ2_checkIndex_2214a 2 none, Cond.methodLink RJ2 48 yJ2_length_9d52b, Cond.static yJ2_length_9d52b, Cond.code yJ2_length_9d52b cJ2_length_9d52b 1 (some .int), Cond.methodLink RJ2 414 yJ0_checkIndex_df160, Cond.methodLink RJ2 71 yJ2_getChar_3b067, Cond.static yJ2_getChar_3b067, Cond.code yJ2_getChar_3b067 cJ2_getChar_3b067 2 (some .char), Cond.fieldLink RJ2 44 "java/lang/StringUTF16" "$assertionsDisabled" "Z", Cond.fieldLink RJ2 59 "java/lang/StringUTF16" "HI_BYTE_SHIFT" "I", Cond.fieldLink RJ2 63 "java/lang/StringUTF16" "LO_BYTE_SHIFT" "I", Cond.methodLink RX4 73 yX4_blame, Cond.instanceMethod yX4_blame]
def wsX4_readWays_r4 : List Cond := [Cond.selects RX4 yX4_blame yX4_blame, Cond.code yX4_blame cX4_blame 2 none, Cond.fieldLink RX4 18 "BlueCoats$Reader" "fault" "I", Cond.fieldLink RX4 22 "BlueCoats$Reader" "faultPlace" "I", Cond.methodLink RX4 50 yX4_advance, Cond.instanceMethod yX4_advance, Cond.selects RX4 yX4_advance yX4_advance, Cond.code yX4_advance cX4_advance 2 none, Cond.methodLink RX4 143 yX4_isBlank, Cond.static yX4_isBlank, Cond.code yX4_isBlank cX4_isBlank 1 (some .boolean), Cond.methodLink RX4 147 yX4_isLetter, Cond.static yX4_isLetter, Cond.code yX4_isLetter cX4_isLetter 1 (some .boolean), Cond.methodLink RX4 150 yX4_isDigit, Cond.static yX4_isDigit, Cond.code yX4_isDigit cX4_isDigit 1 (some .boolean), Cond.methodLink RX4 153 yX4_scanDigits, Cond.instanceMethod yX4_scanDigits, Cond.selects RX4 yX4_scanDigits yX4_scanDigits, Cond.code yX4_scanDigits cX4_scanDigits 1 none, Cond.fieldLink RX4 113 "BlueCoats$Reader" "value" "I", Cond.constant RX4 156 (100000), Cond.methodLink RX4 32 Lib.Math.min.name]
def wsX4_readWays_r5 : List Cond := [Cond.static Lib.Math.min.name, Cond.initialized "java/lang/Math", Cond.code Lib.Math.min.name Lib.Math.min.code 2 (some .int)]
def wsX4_readWays : List Cond := .code yX4_readWays cX4_readWays 2 none :: ((wsX4_readWays_r1 ++ (wsX4_readWays_r2 ++ (wsX4_readWays_r3 ++ (wsX4_readWays_r4 ++ wsX4_readWays_r5)))) ++ wsX40 ++ wsX50)
def wsX4_readNumber_r1 : List Cond := [Cond.fieldLink RX4 53 "BlueCoats$Reader" "kind" "I", Cond.fieldLink RX4 113 "BlueCoats$Reader" "value" "I", Cond.methodLink RX4 73 yX4_blame, Cond.instanceMethod yX4_blame, Cond.selects RX4 yX4_blame yX4_blame, Cond.initialized RX4, Cond.code yX4_blame cX4_blame 2 none, Cond.fieldLink RX4 18 "BlueCoats$Reader" "fault" "I", Cond.fieldLink RX4 67 "BlueCoats$Reader" "start" "I", Cond.fieldLink RX4 22 "BlueCoats$Reader" "faultPlace" "I", Cond.methodLink RX4 50 yX4_advance, Cond.instanceMethod yX4_advance, Cond.selects RX4 yX4_advance yX4_advance, Cond.code yX4_advance cX4_advance 2 none, Cond.fieldLink RX4 41 "BlueCoats$Reader" "end" "I", Cond.fieldLink RX4 38 "BlueCoats$Reader" "length" "I", Cond.methodLink RX4 135 yX4_signAt, Cond.instanceMethod yX4_signAt, Cond.selects RX4 yX4_signAt yX4_signAt, Cond.code yX4_signAt cX4_signAt 2 (some .int), Cond.fieldLink RX4 25 "BlueCoats$Reader" "tape" "[B", Cond.methodLink RX4 143 yX4_isBlank, Cond.static yX4_isBlank, Cond.code yX4_isBlank cX4_isBlank 1 (some .boolean)]
def wsX4_readNumber_r2 : List Cond := [Cond.methodLink RX4 147 yX4_isLetter, Cond.static yX4_isLetter, Cond.code yX4_isLetter cX4_isLetter 1 (some .boolean), Cond.methodLink RX4 150 yX4_isDigit, Cond.static yX4_isDigit, Cond.code yX4_isDigit cX4_isDigit 1 (some .boolean), Cond.methodLink RX4 153 yX4_scanDigits, Cond.instanceMethod yX4_scanDigits, Cond.selects RX4 yX4_scanDigits yX4_scanDigits, Cond.code yX4_scanDigits cX4_scanDigits 1 none, Cond.constant RX4 156 (100000), Cond.methodLink RX4 32 Lib.Math.min.name, Cond.static Lib.Math.min.name, Cond.initialized "java/lang/Math", Cond.code Lib.Math.min.name Lib.Math.min.code 2 (some .int)]
def wsX4_readNumber : List Cond := .code yX4_readNumber cX4_readNumber 4 (some .int) :: ((wsX4_readNumber_r1 ++ wsX4_readNumber_r2) ++ wsX40)
def wsX4_readAges_r1 : List Cond := [Cond.fieldLink RX4 12 "BlueCoats$Reader" "draft" "LBlueCoats$Statutes;", Cond.fieldLink RX4 107 "BlueCoats$Statutes" "ageFrom" "I", Cond.fieldLink RX4 18 "BlueCoats$Reader" "fault" "I", Cond.fieldLink RX4 110 "BlueCoats$Statutes" "ageTo" "I", Cond.methodLink RX4 79 yX4_readNumber, Cond.instanceMethod yX4_readNumber, Cond.selects RX4 yX4_readNumber yX4_readNumber, Cond.initialized RX4, Cond.code yX4_readNumber cX4_readNumber 4 (some .int), Cond.fieldLink RX4 53 "BlueCoats$Reader" "kind" "I", Cond.fieldLink RX4 113 "BlueCoats$Reader" "value" "I", Cond.methodLink RX4 73 yX4_blame, Cond.instanceMethod yX4_blame, Cond.selects RX4 yX4_blame yX4_blame, Cond.code yX4_blame cX4_blame 2 none, Cond.fieldLink RX4 67 "BlueCoats$Reader" "start" "I", Cond.fieldLink RX4 22 "BlueCoats$Reader" "faultPlace" "I", Cond.methodLink RX4 50 yX4_advance, Cond.instanceMethod yX4_advance, Cond.selects RX4 yX4_advance yX4_advance, Cond.code yX4_advance cX4_advance 2 none, Cond.fieldLink RX4 41 "BlueCoats$Reader" "end" "I", Cond.fieldLink RX4 38 "BlueCoats$Reader" "length" "I", Cond.methodLink RX4 135 yX4_signAt]
def wsX4_readAges_r2 : List Cond := [Cond.instanceMethod yX4_signAt, Cond.selects RX4 yX4_signAt yX4_signAt, Cond.code yX4_signAt cX4_signAt 2 (some .int), Cond.fieldLink RX4 25 "BlueCoats$Reader" "tape" "[B", Cond.methodLink RX4 143 yX4_isBlank, Cond.static yX4_isBlank, Cond.code yX4_isBlank cX4_isBlank 1 (some .boolean), Cond.methodLink RX4 147 yX4_isLetter, Cond.static yX4_isLetter, Cond.code yX4_isLetter cX4_isLetter 1 (some .boolean), Cond.methodLink RX4 150 yX4_isDigit, Cond.static yX4_isDigit, Cond.code yX4_isDigit cX4_isDigit 1 (some .boolean), Cond.methodLink RX4 153 yX4_scanDigits, Cond.instanceMethod yX4_scanDigits, Cond.selects RX4 yX4_scanDigits yX4_scanDigits, Cond.code yX4_scanDigits cX4_scanDigits 1 none, Cond.constant RX4 156 (100000), Cond.methodLink RX4 32 Lib.Math.min.name, Cond.static Lib.Math.min.name, Cond.initialized "java/lang/Math", Cond.code Lib.Math.min.name Lib.Math.min.code 2 (some .int)]
def wsX4_readAges : List Cond := .code yX4_readAges cX4_readAges 1 none :: ((wsX4_readAges_r1 ++ wsX4_readAges_r2) ++ wsX40 ++ wsX50)
def wsX4_readRest_r1 : List Cond := [Cond.fieldLink RX4 12 "BlueCoats$Reader" "draft" "LBlueCoats$Statutes;", Cond.fieldLink RX4 82 "BlueCoats$Statutes" "vote" "I", Cond.fieldLink RX4 88 "BlueCoats$Statutes" "wear" "I", Cond.fieldLink RX4 91 "BlueCoats$Statutes" "spare" "I", Cond.fieldLink RX4 94 "BlueCoats$Statutes" "places" "I", Cond.methodLink RX4 76 yX4_readWays, Cond.instanceMethod yX4_readWays, Cond.selects RX4 yX4_readWays yX4_readWays, Cond.initialized RX4, Cond.code yX4_readWays cX4_readWays 2 none, Cond.fieldLink RX4 100 "BlueCoats$Statutes" "ways" "I", Cond.fieldLink RX4 103 "BlueCoats$Statutes" "cycle" "[I", Cond.methodLink RX4 97 yX4_wayNamed, Cond.instanceMethod yX4_wayNamed, Cond.selects RX4 yX4_wayNamed yX4_wayNamed, Cond.code yX4_wayNamed cX4_wayNamed 1 (some .int), Cond.methodLink RX4 117 yX4_isWord, Cond.instanceMethod yX4_isWord, Cond.selects RX4 yX4_isWord yX4_isWord, Cond.code yX4_isWord cX4_isWord 3 (some .boolean), Cond.fieldLink RX4 53 "BlueCoats$Reader" "kind" "I", Cond.fieldLink RX4 41 "BlueCoats$Reader" "end" "I", Cond.fieldLink RX4 67 "BlueCoats$Reader" "start" "I", Cond.methodLink RX4 131 yJ0_length_8abf5]
def wsX4_readRest_r2 : List Cond := [Cond.instanceMethod yJ0_length_8abf5, Cond.selects RJ0 yJ0_length_8abf5 yJ0_length_8abf5, Cond.initialized RJ0, Cond.code yJ0_length_8abf5 cJ0_length_8abf5 1 (some .int), Cond.fieldLink RJ0 9 "java/lang/String" "value" "[B", Cond.methodLink RJ0 335 yJ0_coder_7d493, Cond.instanceMethod yJ0_coder_7d493, Cond.selects RJ0 yJ0_coder_7d493 yJ0_coder_7d493, Cond.code yJ0_coder_7d493 cJ0_coder_7d493 1 (some .byte), Cond.fieldLink RJ0 38 "java/lang/String" "COMPACT_STRINGS" "Z", Cond.fieldLink RJ0 15 "java/lang/String" "coder" "B", Cond.methodLink RX4 135 yX4_signAt, Cond.instanceMethod yX4_signAt, Cond.selects RX4 yX4_signAt yX4_signAt, Cond.code yX4_signAt cX4_signAt 2 (some .int), Cond.fieldLink RX4 38 "BlueCoats$Reader" "length" "I", Cond.fieldLink RX4 25 "BlueCoats$Reader" "tape" "[B", Cond.methodLink RX4 139 yJ0_charAt_5068e, Cond.instanceMethod yJ0_charAt_5068e, Cond.selects RJ0 yJ0_charAt_5068e yJ0_charAt_5068e, Cond.code yJ0_charAt_5068e cJ0_charAt_5068e 2 (some .char), Cond.methodLink RJ0 492 yJ0_isLatin1_aae02, Cond.instanceMethod yJ0_isLatin1_aae02, Cond.selects RJ0 yJ0_isLatin1_aae02 yJ0_isLatin1_aae02]
def wsX4_readRest_r3 : List Cond := [Cond.code yJ0_isLatin1_aae02 cJ0_isLatin1_aae02 1 (some .boolean), Cond.methodLink RJ0 495 yJ1_charAt_3b067, Cond.static yJ1_charAt_3b067, Cond.initialized RJ1, Cond.code yJ1_charAt_3b067 cJ1_charAt_3b067 2 (some .char), Cond.methodLink RJ1 9 yJ0_checkIndex_df160, Cond.static yJ0_checkIndex_df160, Cond.code yJ0_checkIndex_df160 cJ0_checkIndex_df160 2 none, Cond.fieldLink RJ0 1053 "jdk/internal/util/Preconditions" "SIOOBE_FORMATTER" "Ljava/util/function/BiFunction;", Cond.methodLink RJ0 1059 yJ3_checkIndex_8e157, Cond.static yJ3_checkIndex_8e157, Cond.initialized RJ3, Cond.code yJ3_checkIndex_8e157 cJ3_checkIndex_8e157 3 (some .int), Cond.methodLink RJ0 498 yJ2_charAt_3b067, Cond.static yJ2_charAt_3b067, Cond.initialized RJ2, Cond.code yJ2_charAt_3b067 cJ2_charAt_3b067 2 (some .char), Cond.methodLink RJ2 67 yJ2_checkIndex_2214a, Cond.static yJ2_checkIndex_2214a, Cond.code yJ2_checkIndex_2214a cJ2_checkIndex_2214a 2 none, Cond.methodLink RJ2 48 yJ2_length_9d52b, Cond.static yJ2_length_9d52b, Cond.code yJ2_length_9d52b cJ2_length_9d52b 1 (some .int), Cond.methodLink RJ2 414 yJ0_checkIndex_df160]
def wsX4_readRest_r4 : List Cond := [Cond.methodLink RJ2 71 yJ2_getChar_3b067, Cond.static yJ2_getChar_3b067, Cond.code yJ2_getChar_3b067 cJ2_getChar_3b067 2 (some .char), Cond.fieldLink RJ2 44 "java/lang/StringUTF16" "$assertionsDisabled" "Z", Cond.fieldLink RJ2 59 "java/lang/StringUTF16" "HI_BYTE_SHIFT" "I", Cond.fieldLink RJ2 63 "java/lang/StringUTF16" "LO_BYTE_SHIFT" "I", Cond.methodLink RX4 73 yX4_blame, Cond.instanceMethod yX4_blame, Cond.selects RX4 yX4_blame yX4_blame, Cond.code yX4_blame cX4_blame 2 none, Cond.fieldLink RX4 18 "BlueCoats$Reader" "fault" "I", Cond.fieldLink RX4 22 "BlueCoats$Reader" "faultPlace" "I", Cond.methodLink RX4 50 yX4_advance, Cond.instanceMethod yX4_advance, Cond.selects RX4 yX4_advance yX4_advance, Cond.code yX4_advance cX4_advance 2 none, Cond.methodLink RX4 143 yX4_isBlank, Cond.static yX4_isBlank, Cond.code yX4_isBlank cX4_isBlank 1 (some .boolean), Cond.methodLink RX4 147 yX4_isLetter, Cond.static yX4_isLetter, Cond.code yX4_isLetter cX4_isLetter 1 (some .boolean), Cond.methodLink RX4 150 yX4_isDigit, Cond.static yX4_isDigit]
def wsX4_readRest_r5 : List Cond := [Cond.code yX4_isDigit cX4_isDigit 1 (some .boolean), Cond.methodLink RX4 153 yX4_scanDigits, Cond.instanceMethod yX4_scanDigits, Cond.selects RX4 yX4_scanDigits yX4_scanDigits, Cond.code yX4_scanDigits cX4_scanDigits 1 none, Cond.fieldLink RX4 113 "BlueCoats$Reader" "value" "I", Cond.constant RX4 156 (100000), Cond.methodLink RX4 32 Lib.Math.min.name, Cond.static Lib.Math.min.name, Cond.initialized "java/lang/Math", Cond.code Lib.Math.min.name Lib.Math.min.code 2 (some .int), Cond.methodLink RX4 79 yX4_readNumber, Cond.instanceMethod yX4_readNumber, Cond.selects RX4 yX4_readNumber yX4_readNumber, Cond.code yX4_readNumber cX4_readNumber 4 (some .int), Cond.methodLink RX4 85 yX4_readAges, Cond.instanceMethod yX4_readAges, Cond.selects RX4 yX4_readAges yX4_readAges, Cond.code yX4_readAges cX4_readAges 1 none, Cond.fieldLink RX4 107 "BlueCoats$Statutes" "ageFrom" "I", Cond.fieldLink RX4 110 "BlueCoats$Statutes" "ageTo" "I"]
def wsX4_readRest : List Cond := .code yX4_readRest cX4_readRest 2 none :: ((wsX4_readRest_r1 ++ (wsX4_readRest_r2 ++ (wsX4_readRest_r3 ++ (wsX4_readRest_r4 ++ wsX4_readRest_r5)))) ++ wsX40 ++ wsX50)
def wsX4_endLine_r1 : List Cond := [Cond.fieldLink RX4 18 "BlueCoats$Reader" "fault" "I", Cond.fieldLink RX4 53 "BlueCoats$Reader" "kind" "I", Cond.methodLink RX4 50 yX4_advance, Cond.instanceMethod yX4_advance, Cond.selects RX4 yX4_advance yX4_advance, Cond.initialized RX4, Cond.code yX4_advance cX4_advance 2 none, Cond.fieldLink RX4 41 "BlueCoats$Reader" "end" "I", Cond.fieldLink RX4 67 "BlueCoats$Reader" "start" "I", Cond.fieldLink RX4 38 "BlueCoats$Reader" "length" "I", Cond.methodLink RX4 135 yX4_signAt, Cond.instanceMethod yX4_signAt, Cond.selects RX4 yX4_signAt yX4_signAt, Cond.code yX4_signAt cX4_signAt 2 (some .int), Cond.fieldLink RX4 25 "BlueCoats$Reader" "tape" "[B", Cond.methodLink RX4 143 yX4_isBlank, Cond.static yX4_isBlank, Cond.code yX4_isBlank cX4_isBlank 1 (some .boolean), Cond.methodLink RX4 147 yX4_isLetter, Cond.static yX4_isLetter, Cond.code yX4_isLetter cX4_isLetter 1 (some .boolean), Cond.methodLink RX4 150 yX4_isDigit, Cond.static yX4_isDigit, Cond.code yX4_isDigit cX4_isDigit 1 (some .boolean)]
def wsX4_endLine_r2 : List Cond := [Cond.methodLink RX4 153 yX4_scanDigits, Cond.instanceMethod yX4_scanDigits, Cond.selects RX4 yX4_scanDigits yX4_scanDigits, Cond.code yX4_scanDigits cX4_scanDigits 1 none, Cond.fieldLink RX4 113 "BlueCoats$Reader" "value" "I", Cond.constant RX4 156 (100000), Cond.methodLink RX4 32 Lib.Math.min.name, Cond.static Lib.Math.min.name, Cond.initialized "java/lang/Math", Cond.code Lib.Math.min.name Lib.Math.min.code 2 (some .int), Cond.methodLink RX4 73 yX4_blame, Cond.instanceMethod yX4_blame, Cond.selects RX4 yX4_blame yX4_blame, Cond.code yX4_blame cX4_blame 2 none, Cond.fieldLink RX4 22 "BlueCoats$Reader" "faultPlace" "I"]
def wsX4_endLine : List Cond := .code yX4_endLine cX4_endLine 1 none :: ((wsX4_endLine_r1 ++ wsX4_endLine_r2) ++ wsX40)
def wsX4_read_r1 : List Cond := [Cond.fieldLink RX4 29 "BlueCoats$Reader" "taped" "I", Cond.methodLink RX4 32 Lib.Math.min.name, Cond.static Lib.Math.min.name, Cond.initialized "java/lang/Math", Cond.code Lib.Math.min.name Lib.Math.min.code 2 (some .int), Cond.fieldLink RX4 38 "BlueCoats$Reader" "length" "I", Cond.fieldLink RX4 41 "BlueCoats$Reader" "end" "I", Cond.fieldLink RX4 44 "BlueCoats$Reader" "told" "I", Cond.fieldLink RX4 18 "BlueCoats$Reader" "fault" "I", Cond.fieldLink RX4 22 "BlueCoats$Reader" "faultPlace" "I", Cond.fieldLink RX4 12 "BlueCoats$Reader" "draft" "LBlueCoats$Statutes;", Cond.fieldLink RX4 53 "BlueCoats$Reader" "kind" "I", Cond.methodLink RX4 47 yX5_sayNothing, Cond.instanceMethod yX5_sayNothing, Cond.selects RX5 yX5_sayNothing yX5_sayNothing, Cond.initialized RX5, Cond.code yX5_sayNothing cX5_sayNothing 1 none, Cond.fieldLink RX5 11 "BlueCoats$Statutes" "cycle" "[I", Cond.fieldLink RX5 18 "BlueCoats$Statutes" "ways" "I", Cond.fieldLink RX5 22 "BlueCoats$Statutes" "next" "I", Cond.fieldLink RX5 25 "BlueCoats$Statutes" "vote" "I", Cond.fieldLink RX5 28 "BlueCoats$Statutes" "ageFrom" "I", Cond.fieldLink RX5 31 "BlueCoats$Statutes" "ageTo" "I", Cond.fieldLink RX5 34 "BlueCoats$Statutes" "wear" "I"]
def wsX4_read_r2 : List Cond := [Cond.fieldLink RX5 37 "BlueCoats$Statutes" "spare" "I", Cond.fieldLink RX5 40 "BlueCoats$Statutes" "places" "I", Cond.methodLink RX4 50 yX4_advance, Cond.instanceMethod yX4_advance, Cond.selects RX4 yX4_advance yX4_advance, Cond.initialized RX4, Cond.code yX4_advance cX4_advance 2 none, Cond.fieldLink RX4 67 "BlueCoats$Reader" "start" "I", Cond.methodLink RX4 135 yX4_signAt, Cond.instanceMethod yX4_signAt, Cond.selects RX4 yX4_signAt yX4_signAt, Cond.code yX4_signAt cX4_signAt 2 (some .int), Cond.fieldLink RX4 25 "BlueCoats$Reader" "tape" "[B", Cond.methodLink RX4 143 yX4_isBlank, Cond.static yX4_isBlank, Cond.code yX4_isBlank cX4_isBlank 1 (some .boolean), Cond.methodLink RX4 147 yX4_isLetter, Cond.static yX4_isLetter, Cond.code yX4_isLetter cX4_isLetter 1 (some .boolean), Cond.methodLink RX4 150 yX4_isDigit, Cond.static yX4_isDigit, Cond.code yX4_isDigit cX4_isDigit 1 (some .boolean), Cond.methodLink RX4 153 yX4_scanDigits, Cond.instanceMethod yX4_scanDigits]
def wsX4_read_r3 : List Cond := [Cond.selects RX4 yX4_scanDigits yX4_scanDigits, Cond.code yX4_scanDigits cX4_scanDigits 1 none, Cond.fieldLink RX4 113 "BlueCoats$Reader" "value" "I", Cond.constant RX4 156 (100000), Cond.methodLink RX4 56 yX4_begunLine, Cond.instanceMethod yX4_begunLine, Cond.selects RX4 yX4_begunLine yX4_begunLine, Cond.code yX4_begunLine cX4_begunLine 2 (some .int), Cond.methodLink RX4 70 yX4_lineNamed, Cond.instanceMethod yX4_lineNamed, Cond.selects RX4 yX4_lineNamed yX4_lineNamed, Cond.code yX4_lineNamed cX4_lineNamed 1 (some .int), Cond.methodLink RX4 117 yX4_isWord, Cond.instanceMethod yX4_isWord, Cond.selects RX4 yX4_isWord yX4_isWord, Cond.code yX4_isWord cX4_isWord 3 (some .boolean), Cond.methodLink RX4 131 yJ0_length_8abf5, Cond.instanceMethod yJ0_length_8abf5, Cond.selects RJ0 yJ0_length_8abf5 yJ0_length_8abf5, Cond.initialized RJ0, Cond.code yJ0_length_8abf5 cJ0_length_8abf5 1 (some .int), Cond.fieldLink RJ0 9 "java/lang/String" "value" "[B", Cond.methodLink RJ0 335 yJ0_coder_7d493, Cond.instanceMethod yJ0_coder_7d493]
def wsX4_read_r4 : List Cond := [Cond.selects RJ0 yJ0_coder_7d493 yJ0_coder_7d493, Cond.code yJ0_coder_7d493 cJ0_coder_7d493 1 (some .byte), Cond.fieldLink RJ0 38 "java/lang/String" "COMPACT_STRINGS" "Z", Cond.fieldLink RJ0 15 "java/lang/String" "coder" "B", Cond.methodLink RX4 139 yJ0_charAt_5068e, Cond.instanceMethod yJ0_charAt_5068e, Cond.selects RJ0 yJ0_charAt_5068e yJ0_charAt_5068e, Cond.code yJ0_charAt_5068e cJ0_charAt_5068e 2 (some .char), Cond.methodLink RJ0 492 yJ0_isLatin1_aae02, Cond.instanceMethod yJ0_isLatin1_aae02, Cond.selects RJ0 yJ0_isLatin1_aae02 yJ0_isLatin1_aae02, Cond.code yJ0_isLatin1_aae02 cJ0_isLatin1_aae02 1 (some .boolean), Cond.methodLink RJ0 495 yJ1_charAt_3b067, Cond.static yJ1_charAt_3b067, Cond.initialized RJ1, Cond.code yJ1_charAt_3b067 cJ1_charAt_3b067 2 (some .char), Cond.methodLink RJ1 9 yJ0_checkIndex_df160, Cond.static yJ0_checkIndex_df160, Cond.code yJ0_checkIndex_df160 cJ0_checkIndex_df160 2 none, Cond.fieldLink RJ0 1053 "jdk/internal/util/Preconditions" "SIOOBE_FORMATTER" "Ljava/util/function/BiFunction;", Cond.methodLink RJ0 1059 yJ3_checkIndex_8e157, Cond.static yJ3_checkIndex_8e157, Cond.initialized RJ3, Cond.code yJ3_checkIndex_8e157 cJ3_checkIndex_8e157 3 (some .int)]
def wsX4_read_r5 : List Cond := [Cond.methodLink RJ0 498 yJ2_charAt_3b067, Cond.static yJ2_charAt_3b067, Cond.initialized RJ2, Cond.code yJ2_charAt_3b067 cJ2_charAt_3b067 2 (some .char), Cond.methodLink RJ2 67 yJ2_checkIndex_2214a, Cond.static yJ2_checkIndex_2214a, Cond.code yJ2_checkIndex_2214a cJ2_checkIndex_2214a 2 none, Cond.methodLink RJ2 48 yJ2_length_9d52b, Cond.static yJ2_length_9d52b, Cond.code yJ2_length_9d52b cJ2_length_9d52b 1 (some .int), Cond.methodLink RJ2 414 yJ0_checkIndex_df160, Cond.methodLink RJ2 71 yJ2_getChar_3b067, Cond.static yJ2_getChar_3b067, Cond.code yJ2_getChar_3b067 cJ2_getChar_3b067 2 (some .char), Cond.fieldLink RJ2 44 "java/lang/StringUTF16" "$assertionsDisabled" "Z", Cond.fieldLink RJ2 59 "java/lang/StringUTF16" "HI_BYTE_SHIFT" "I", Cond.fieldLink RJ2 63 "java/lang/StringUTF16" "LO_BYTE_SHIFT" "I", Cond.methodLink RX4 73 yX4_blame, Cond.instanceMethod yX4_blame, Cond.selects RX4 yX4_blame yX4_blame, Cond.code yX4_blame cX4_blame 2 none, Cond.methodLink RX4 60 yX4_readRest, Cond.instanceMethod yX4_readRest, Cond.selects RX4 yX4_readRest yX4_readRest]
def wsX4_read_r6 : List Cond := [Cond.code yX4_readRest cX4_readRest 2 none, Cond.fieldLink RX4 82 "BlueCoats$Statutes" "vote" "I", Cond.fieldLink RX4 88 "BlueCoats$Statutes" "wear" "I", Cond.fieldLink RX4 91 "BlueCoats$Statutes" "spare" "I", Cond.fieldLink RX4 94 "BlueCoats$Statutes" "places" "I", Cond.methodLink RX4 76 yX4_readWays, Cond.instanceMethod yX4_readWays, Cond.selects RX4 yX4_readWays yX4_readWays, Cond.code yX4_readWays cX4_readWays 2 none, Cond.fieldLink RX4 100 "BlueCoats$Statutes" "ways" "I", Cond.fieldLink RX4 103 "BlueCoats$Statutes" "cycle" "[I", Cond.methodLink RX4 97 yX4_wayNamed, Cond.instanceMethod yX4_wayNamed, Cond.selects RX4 yX4_wayNamed yX4_wayNamed, Cond.code yX4_wayNamed cX4_wayNamed 1 (some .int), Cond.methodLink RX4 79 yX4_readNumber, Cond.instanceMethod yX4_readNumber, Cond.selects RX4 yX4_readNumber yX4_readNumber, Cond.code yX4_readNumber cX4_readNumber 4 (some .int), Cond.methodLink RX4 85 yX4_readAges, Cond.instanceMethod yX4_readAges, Cond.selects RX4 yX4_readAges yX4_readAges, Cond.code yX4_readAges cX4_readAges 1 none, Cond.fieldLink RX4 107 "BlueCoats$Statutes" "ageFrom" "I"]
def wsX4_read_r7 : List Cond := [Cond.fieldLink RX4 110 "BlueCoats$Statutes" "ageTo" "I", Cond.methodLink RX4 64 yX4_endLine, Cond.instanceMethod yX4_endLine, Cond.selects RX4 yX4_endLine yX4_endLine, Cond.code yX4_endLine cX4_endLine 1 none]
def wsX4_read : List Cond := .code yX4_read cX4_read 3 (some .int) :: ((wsX4_read_r1 ++ (wsX4_read_r2 ++ (wsX4_read_r3 ++ (wsX4_read_r4 ++ (wsX4_read_r5 ++ (wsX4_read_r6 ++ wsX4_read_r7)))))) ++ wsX40 ++ wsX50)
def wsX5_takeOver : List Cond := .code yX5_takeOver cX5_takeOver 2 none :: ([.fieldLink RX5 11 "BlueCoats$Statutes" "cycle" "[I", .methodLink RX5 43 arraycopyName, .native arraycopyName, .static arraycopyName, .initialized "java/lang/System", .fieldLink RX5 18 "BlueCoats$Statutes" "ways" "I", .fieldLink RX5 22 "BlueCoats$Statutes" "next" "I", .fieldLink RX5 25 "BlueCoats$Statutes" "vote" "I", .fieldLink RX5 28 "BlueCoats$Statutes" "ageFrom" "I", .fieldLink RX5 31 "BlueCoats$Statutes" "ageTo" "I", .fieldLink RX5 34 "BlueCoats$Statutes" "wear" "I", .fieldLink RX5 37 "BlueCoats$Statutes" "spare" "I", .fieldLink RX5 40 "BlueCoats$Statutes" "places" "I"] ++ wsX50)
def wsX5_wayNext : List Cond := .code yX5_wayNext cX5_wayNext 1 (some .int) :: ([.fieldLink RX5 22 "BlueCoats$Statutes" "next" "I", .fieldLink RX5 11 "BlueCoats$Statutes" "cycle" "[I"] ++ wsX50)
def wsX5_goOn : List Cond := .code yX5_goOn cX5_goOn 1 none :: ([.fieldLink RX5 22 "BlueCoats$Statutes" "next" "I", .fieldLink RX5 18 "BlueCoats$Statutes" "ways" "I"] ++ wsX50)
def wsX6_init : List Cond := .code yX6_init cX6_init 1 none :: ([.methodLink RX6 3 objectInit, .instanceMethod objectInit, .code objectInit ⟨#[0xb1]⟩ 1 none, .arrayClass .int, .fieldLink RX6 11 "BlueCoats$Wardrobe" "size" "[I", .fieldLink RX6 15 "BlueCoats$Wardrobe" "worn" "[I", .arrayClass .boolean, .fieldLink RX6 18 "BlueCoats$Wardrobe" "gone" "[Z", .fieldLink RX6 22 "BlueCoats$Wardrobe" "wearer" "[I"] ++ wsX60)
def wsX6_has : List Cond := .code yX6_has cX6_has 2 (some .boolean) :: ([.fieldLink RX6 25 "BlueCoats$Wardrobe" "number" "I"] ++ wsX60)
def wsX6_cut : List Cond := .code yX6_cut cX6_cut 2 (some .int) :: ([.fieldLink RX6 25 "BlueCoats$Wardrobe" "number" "I", .fieldLink RX6 11 "BlueCoats$Wardrobe" "size" "[I", .fieldLink RX6 15 "BlueCoats$Wardrobe" "worn" "[I", .fieldLink RX6 18 "BlueCoats$Wardrobe" "gone" "[Z", .fieldLink RX6 22 "BlueCoats$Wardrobe" "wearer" "[I"] ++ wsX60)
def wsX6_wearOut : List Cond := .code yX6_wearOut cX6_wearOut 3 (some .boolean) :: ([.fieldLink RX6 15 "BlueCoats$Wardrobe" "worn" "[I", .fieldLink RX6 18 "BlueCoats$Wardrobe" "gone" "[Z", .methodLink RX6 29 yX6_has, .instanceMethod yX6_has, .selects RX6 yX6_has yX6_has, .initialized RX6, .code yX6_has cX6_has 2 (some .boolean), .fieldLink RX6 25 "BlueCoats$Wardrobe" "number" "I"] ++ wsX60)
def wsX7_init_r1 : List Cond := [Cond.methodLink RX7 1 objectInit, Cond.instanceMethod objectInit, Cond.code objectInit ⟨#[0xb1]⟩ 1 none, Cond.classLink RX7 7 RX4, Cond.instantiable RX4 11, Cond.initialized RX4, Cond.fieldLink RX7 10 "BlueCoats" "reader" "LBlueCoats$Reader;", Cond.classLink RX7 16 RX5, Cond.instantiable RX5 9, Cond.initialized RX5, Cond.fieldLink RX7 19 "BlueCoats" "law" "LBlueCoats$Statutes;", Cond.classLink RX7 23 RX3, Cond.instantiable RX3 4, Cond.initialized RX3, Cond.fieldLink RX7 26 "BlueCoats" "givers" "LBlueCoats$Givers;", Cond.classLink RX7 30 RX1, Cond.instantiable RX1 7, Cond.initialized RX1, Cond.fieldLink RX7 33 "BlueCoats" "children" "LBlueCoats$Children;", Cond.classLink RX7 37 RX6, Cond.instantiable RX6 5, Cond.initialized RX6, Cond.fieldLink RX7 40 "BlueCoats" "wardrobe" "LBlueCoats$Wardrobe;", Cond.classLink RX7 44 RX2]
def wsX7_init_r2 : List Cond := [Cond.instantiable RX2 6, Cond.initialized RX2, Cond.fieldLink RX7 47 "BlueCoats" "dressing" "LBlueCoats$Dressing;", Cond.classLink RX7 51 RX0, Cond.instantiable RX0 9, Cond.initialized RX0, Cond.fieldLink RX7 54 "BlueCoats" "chest" "LBlueCoats$Chest;", Cond.fieldLink RX7 58 "BlueCoats" "years" "I", Cond.instanceMethod yX4_init, Cond.code yX4_init cX4_init 1 none, Cond.methodLink RX4 3 objectInit, Cond.classLink RX4 9 RX5, Cond.fieldLink RX4 12 "BlueCoats$Reader" "draft" "LBlueCoats$Statutes;", Cond.fieldLink RX4 18 "BlueCoats$Reader" "fault" "I", Cond.fieldLink RX4 22 "BlueCoats$Reader" "faultPlace" "I", Cond.arrayClass .byte, Cond.fieldLink RX4 25 "BlueCoats$Reader" "tape" "[B", Cond.methodLink RX4 11 yX5_init, Cond.instanceMethod yX5_init, Cond.code yX5_init cX5_init 1 none, Cond.methodLink RX5 3 objectInit, Cond.arrayClass .int, Cond.fieldLink RX5 11 "BlueCoats$Statutes" "cycle" "[I", Cond.methodLink RX5 15 yX5_sayNothing]
def wsX7_init_r3 : List Cond := [Cond.instanceMethod yX5_sayNothing, Cond.selects RX5 yX5_sayNothing yX5_sayNothing, Cond.code yX5_sayNothing cX5_sayNothing 1 none, Cond.fieldLink RX5 18 "BlueCoats$Statutes" "ways" "I", Cond.fieldLink RX5 22 "BlueCoats$Statutes" "next" "I", Cond.fieldLink RX5 25 "BlueCoats$Statutes" "vote" "I", Cond.fieldLink RX5 28 "BlueCoats$Statutes" "ageFrom" "I", Cond.fieldLink RX5 31 "BlueCoats$Statutes" "ageTo" "I", Cond.fieldLink RX5 34 "BlueCoats$Statutes" "wear" "I", Cond.fieldLink RX5 37 "BlueCoats$Statutes" "spare" "I", Cond.fieldLink RX5 40 "BlueCoats$Statutes" "places" "I", Cond.methodLink RX7 18 yX5_init, Cond.instanceMethod yX3_init, Cond.code yX3_init cX3_init 1 none, Cond.methodLink RX3 3 objectInit, Cond.fieldLink RX3 11 "BlueCoats$Givers" "gave" "[I", Cond.fieldLink RX3 15 "BlueCoats$Givers" "supported" "[I", Cond.instanceMethod yX1_init, Cond.code yX1_init cX1_init 1 none, Cond.methodLink RX1 3 objectInit, Cond.fieldLink RX1 11 "BlueCoats$Children" "age" "[I", Cond.fieldLink RX1 15 "BlueCoats$Children" "need" "[I", Cond.fieldLink RX1 18 "BlueCoats$Children" "size" "[I", Cond.fieldLink RX1 21 "BlueCoats$Children" "growth" "[I"]
def wsX7_init_r4 : List Cond := [Cond.fieldLink RX1 24 "BlueCoats$Children" "state" "[I", Cond.fieldLink RX1 27 "BlueCoats$Children" "coat" "[I", Cond.instanceMethod yX6_init, Cond.code yX6_init cX6_init 1 none, Cond.methodLink RX6 3 objectInit, Cond.fieldLink RX6 11 "BlueCoats$Wardrobe" "size" "[I", Cond.fieldLink RX6 15 "BlueCoats$Wardrobe" "worn" "[I", Cond.arrayClass .boolean, Cond.fieldLink RX6 18 "BlueCoats$Wardrobe" "gone" "[Z", Cond.fieldLink RX6 22 "BlueCoats$Wardrobe" "wearer" "[I", Cond.instanceMethod yX2_init, Cond.code yX2_init cX2_init 1 none, Cond.methodLink RX2 3 objectInit, Cond.fieldLink RX2 11 "BlueCoats$Dressing" "guest" "[I", Cond.fieldLink RX2 15 "BlueCoats$Dressing" "given" "[I", Cond.fieldLink RX2 18 "BlueCoats$Dressing" "size" "[I", Cond.arrayClass .long, Cond.fieldLink RX2 21 "BlueCoats$Dressing" "fitting" "[J", Cond.instanceMethod yX0_init, Cond.code yX0_init cX0_init 1 none, Cond.methodLink RX0 5 objectInit, Cond.fieldLink RX0 11 "BlueCoats$Chest" "need" "[I", Cond.fieldLink RX0 15 "BlueCoats$Chest" "toEnd" "[I", Cond.fieldLink RX0 18 "BlueCoats$Chest" "fromLegacy" "[I"]
def wsX7_init_r5 : List Cond := [Cond.fieldLink RX0 21 "BlueCoats$Chest" "coins" "[I", Cond.fieldLink RX0 24 "BlueCoats$Chest" "ends" "[I", Cond.fieldLink RX0 27 "BlueCoats$Chest" "lack" "[I"]
def wsX7_init : List Cond := .code yX7_init cX7_init 1 none :: ((wsX7_init_r1 ++ (wsX7_init_r2 ++ (wsX7_init_r3 ++ (wsX7_init_r4 ++ wsX7_init_r5)))) ++ wsX40 ++ wsX70 ++ wsX50 ++ wsX30 ++ wsX10 ++ wsX60 ++ wsX20 ++ wsX00)
def wsX7_feed : List Cond := .code yX7_feed cX7_feed 6 (some .int) :: ([.fieldLink RX7 10 "BlueCoats" "reader" "LBlueCoats$Reader;", .fieldLink RX7 62 "BlueCoats$Reader" "taped" "I", .methodLink RX7 65 yX4_append, .instanceMethod yX4_append, .selects RX4 yX4_append yX4_append, .initialized RX4, .code yX4_append cX4_append 3 none, .fieldLink RX4 29 "BlueCoats$Reader" "taped" "I", .fieldLink RX4 25 "BlueCoats$Reader" "tape" "[B"] ++ wsX70 ++ wsX40)
def wsX7_statutes_r1 : List Cond := [Cond.fieldLink RX7 10 "BlueCoats" "reader" "LBlueCoats$Reader;", Cond.fieldLink RX7 62 "BlueCoats$Reader" "taped" "I", Cond.fieldLink RX7 19 "BlueCoats" "law" "LBlueCoats$Statutes;", Cond.fieldLink RX7 73 "BlueCoats$Reader" "draft" "LBlueCoats$Statutes;", Cond.methodLink RX7 69 yX4_read, Cond.instanceMethod yX4_read, Cond.selects RX4 yX4_read yX4_read, Cond.initialized RX4, Cond.code yX4_read cX4_read 3 (some .int), Cond.fieldLink RX4 29 "BlueCoats$Reader" "taped" "I", Cond.methodLink RX4 32 Lib.Math.min.name, Cond.static Lib.Math.min.name, Cond.initialized "java/lang/Math", Cond.code Lib.Math.min.name Lib.Math.min.code 2 (some .int), Cond.fieldLink RX4 38 "BlueCoats$Reader" "length" "I", Cond.fieldLink RX4 41 "BlueCoats$Reader" "end" "I", Cond.fieldLink RX4 44 "BlueCoats$Reader" "told" "I", Cond.fieldLink RX4 18 "BlueCoats$Reader" "fault" "I", Cond.fieldLink RX4 22 "BlueCoats$Reader" "faultPlace" "I", Cond.fieldLink RX4 12 "BlueCoats$Reader" "draft" "LBlueCoats$Statutes;", Cond.fieldLink RX4 53 "BlueCoats$Reader" "kind" "I", Cond.methodLink RX4 47 yX5_sayNothing, Cond.instanceMethod yX5_sayNothing, Cond.selects RX5 yX5_sayNothing yX5_sayNothing]
def wsX7_statutes_r2 : List Cond := [Cond.initialized RX5, Cond.code yX5_sayNothing cX5_sayNothing 1 none, Cond.fieldLink RX5 11 "BlueCoats$Statutes" "cycle" "[I", Cond.fieldLink RX5 18 "BlueCoats$Statutes" "ways" "I", Cond.fieldLink RX5 22 "BlueCoats$Statutes" "next" "I", Cond.fieldLink RX5 25 "BlueCoats$Statutes" "vote" "I", Cond.fieldLink RX5 28 "BlueCoats$Statutes" "ageFrom" "I", Cond.fieldLink RX5 31 "BlueCoats$Statutes" "ageTo" "I", Cond.fieldLink RX5 34 "BlueCoats$Statutes" "wear" "I", Cond.fieldLink RX5 37 "BlueCoats$Statutes" "spare" "I", Cond.fieldLink RX5 40 "BlueCoats$Statutes" "places" "I", Cond.methodLink RX4 50 yX4_advance, Cond.instanceMethod yX4_advance, Cond.selects RX4 yX4_advance yX4_advance, Cond.code yX4_advance cX4_advance 2 none, Cond.fieldLink RX4 67 "BlueCoats$Reader" "start" "I", Cond.methodLink RX4 135 yX4_signAt, Cond.instanceMethod yX4_signAt, Cond.selects RX4 yX4_signAt yX4_signAt, Cond.code yX4_signAt cX4_signAt 2 (some .int), Cond.fieldLink RX4 25 "BlueCoats$Reader" "tape" "[B", Cond.methodLink RX4 143 yX4_isBlank, Cond.static yX4_isBlank, Cond.code yX4_isBlank cX4_isBlank 1 (some .boolean)]
def wsX7_statutes_r3 : List Cond := [Cond.methodLink RX4 147 yX4_isLetter, Cond.static yX4_isLetter, Cond.code yX4_isLetter cX4_isLetter 1 (some .boolean), Cond.methodLink RX4 150 yX4_isDigit, Cond.static yX4_isDigit, Cond.code yX4_isDigit cX4_isDigit 1 (some .boolean), Cond.methodLink RX4 153 yX4_scanDigits, Cond.instanceMethod yX4_scanDigits, Cond.selects RX4 yX4_scanDigits yX4_scanDigits, Cond.code yX4_scanDigits cX4_scanDigits 1 none, Cond.fieldLink RX4 113 "BlueCoats$Reader" "value" "I", Cond.constant RX4 156 (100000), Cond.methodLink RX4 56 yX4_begunLine, Cond.instanceMethod yX4_begunLine, Cond.selects RX4 yX4_begunLine yX4_begunLine, Cond.code yX4_begunLine cX4_begunLine 2 (some .int), Cond.methodLink RX4 70 yX4_lineNamed, Cond.instanceMethod yX4_lineNamed, Cond.selects RX4 yX4_lineNamed yX4_lineNamed, Cond.code yX4_lineNamed cX4_lineNamed 1 (some .int), Cond.methodLink RX4 117 yX4_isWord, Cond.instanceMethod yX4_isWord, Cond.selects RX4 yX4_isWord yX4_isWord, Cond.code yX4_isWord cX4_isWord 3 (some .boolean)]
def wsX7_statutes_r4 : List Cond := [Cond.methodLink RX4 131 yJ0_length_8abf5, Cond.instanceMethod yJ0_length_8abf5, Cond.selects RJ0 yJ0_length_8abf5 yJ0_length_8abf5, Cond.initialized RJ0, Cond.code yJ0_length_8abf5 cJ0_length_8abf5 1 (some .int), Cond.fieldLink RJ0 9 "java/lang/String" "value" "[B", Cond.methodLink RJ0 335 yJ0_coder_7d493, Cond.instanceMethod yJ0_coder_7d493, Cond.selects RJ0 yJ0_coder_7d493 yJ0_coder_7d493, Cond.code yJ0_coder_7d493 cJ0_coder_7d493 1 (some .byte), Cond.fieldLink RJ0 38 "java/lang/String" "COMPACT_STRINGS" "Z", Cond.fieldLink RJ0 15 "java/lang/String" "coder" "B", Cond.methodLink RX4 139 yJ0_charAt_5068e, Cond.instanceMethod yJ0_charAt_5068e, Cond.selects RJ0 yJ0_charAt_5068e yJ0_charAt_5068e, Cond.code yJ0_charAt_5068e cJ0_charAt_5068e 2 (some .char), Cond.methodLink RJ0 492 yJ0_isLatin1_aae02, Cond.instanceMethod yJ0_isLatin1_aae02, Cond.selects RJ0 yJ0_isLatin1_aae02 yJ0_isLatin1_aae02, Cond.code yJ0_isLatin1_aae02 cJ0_isLatin1_aae02 1 (some .boolean), Cond.methodLink RJ0 495 yJ1_charAt_3b067, Cond.static yJ1_charAt_3b067, Cond.initialized RJ1, Cond.code yJ1_charAt_3b067 cJ1_charAt_3b067 2 (some .char)]
def wsX7_statutes_r5 : List Cond := [Cond.methodLink RJ1 9 yJ0_checkIndex_df160, Cond.static yJ0_checkIndex_df160, Cond.code yJ0_checkIndex_df160 cJ0_checkIndex_df160 2 none, Cond.fieldLink RJ0 1053 "jdk/internal/util/Preconditions" "SIOOBE_FORMATTER" "Ljava/util/function/BiFunction;", Cond.methodLink RJ0 1059 yJ3_checkIndex_8e157, Cond.static yJ3_checkIndex_8e157, Cond.initialized RJ3, Cond.code yJ3_checkIndex_8e157 cJ3_checkIndex_8e157 3 (some .int), Cond.methodLink RJ0 498 yJ2_charAt_3b067, Cond.static yJ2_charAt_3b067, Cond.initialized RJ2, Cond.code yJ2_charAt_3b067 cJ2_charAt_3b067 2 (some .char), Cond.methodLink RJ2 67 yJ2_checkIndex_2214a, Cond.static yJ2_checkIndex_2214a, Cond.code yJ2_checkIndex_2214a cJ2_checkIndex_2214a 2 none, Cond.methodLink RJ2 48 yJ2_length_9d52b, Cond.static yJ2_length_9d52b, Cond.code yJ2_length_9d52b cJ2_length_9d52b 1 (some .int), Cond.methodLink RJ2 414 yJ0_checkIndex_df160, Cond.methodLink RJ2 71 yJ2_getChar_3b067, Cond.static yJ2_getChar_3b067, Cond.code yJ2_getChar_3b067 cJ2_getChar_3b067 2 (some .char), Cond.fieldLink RJ2 44 "java/lang/StringUTF16" "$assertionsDisabled" "Z", Cond.fieldLink RJ2 59 "java/lang/StringUTF16" "HI_BYTE_SHIFT" "I"]
def wsX7_statutes_r6 : List Cond := [Cond.fieldLink RJ2 63 "java/lang/StringUTF16" "LO_BYTE_SHIFT" "I", Cond.methodLink RX4 73 yX4_blame, Cond.instanceMethod yX4_blame, Cond.selects RX4 yX4_blame yX4_blame, Cond.code yX4_blame cX4_blame 2 none, Cond.methodLink RX4 60 yX4_readRest, Cond.instanceMethod yX4_readRest, Cond.selects RX4 yX4_readRest yX4_readRest, Cond.code yX4_readRest cX4_readRest 2 none, Cond.fieldLink RX4 82 "BlueCoats$Statutes" "vote" "I", Cond.fieldLink RX4 88 "BlueCoats$Statutes" "wear" "I", Cond.fieldLink RX4 91 "BlueCoats$Statutes" "spare" "I", Cond.fieldLink RX4 94 "BlueCoats$Statutes" "places" "I", Cond.methodLink RX4 76 yX4_readWays, Cond.instanceMethod yX4_readWays, Cond.selects RX4 yX4_readWays yX4_readWays, Cond.code yX4_readWays cX4_readWays 2 none, Cond.fieldLink RX4 100 "BlueCoats$Statutes" "ways" "I", Cond.fieldLink RX4 103 "BlueCoats$Statutes" "cycle" "[I", Cond.methodLink RX4 97 yX4_wayNamed, Cond.instanceMethod yX4_wayNamed, Cond.selects RX4 yX4_wayNamed yX4_wayNamed, Cond.code yX4_wayNamed cX4_wayNamed 1 (some .int), Cond.methodLink RX4 79 yX4_readNumber]
def wsX7_statutes_r7 : List Cond := [Cond.instanceMethod yX4_readNumber, Cond.selects RX4 yX4_readNumber yX4_readNumber, Cond.code yX4_readNumber cX4_readNumber 4 (some .int), Cond.methodLink RX4 85 yX4_readAges, Cond.instanceMethod yX4_readAges, Cond.selects RX4 yX4_readAges yX4_readAges, Cond.code yX4_readAges cX4_readAges 1 none, Cond.fieldLink RX4 107 "BlueCoats$Statutes" "ageFrom" "I", Cond.fieldLink RX4 110 "BlueCoats$Statutes" "ageTo" "I", Cond.methodLink RX4 64 yX4_endLine, Cond.instanceMethod yX4_endLine, Cond.selects RX4 yX4_endLine yX4_endLine, Cond.code yX4_endLine cX4_endLine 1 none, Cond.methodLink RX7 76 yX5_takeOver, Cond.instanceMethod yX5_takeOver, Cond.selects RX5 yX5_takeOver yX5_takeOver, Cond.code yX5_takeOver cX5_takeOver 2 none, Cond.methodLink RX5 43 arraycopyName, Cond.native arraycopyName, Cond.static arraycopyName, Cond.initialized "java/lang/System"]
def wsX7_statutes : List Cond := .code yX7_statutes cX7_statutes 3 (some .int) :: ((wsX7_statutes_r1 ++ (wsX7_statutes_r2 ++ (wsX7_statutes_r3 ++ (wsX7_statutes_r4 ++ (wsX7_statutes_r5 ++ (wsX7_statutes_r6 ++ wsX7_statutes_r7)))))) ++ wsX70 ++ wsX40 ++ wsX50)
def wsX7_fault : List Cond := .code yX7_fault cX7_fault 2 (some .int) :: ([.fieldLink RX7 10 "BlueCoats" "reader" "LBlueCoats$Reader;", .fieldLink RX7 80 "BlueCoats$Reader" "fault" "I", .fieldLink RX7 83 "BlueCoats$Reader" "faultPlace" "I"] ++ wsX70 ++ wsX40)
def wsX7_giver : List Cond := .code yX7_giver cX7_giver 1 (some .int) :: ([.fieldLink RX7 26 "BlueCoats" "givers" "LBlueCoats$Givers;", .methodLink RX7 86 yX3_add, .instanceMethod yX3_add, .selects RX3 yX3_add yX3_add, .initialized RX3, .code yX3_add cX3_add 1 (some .int), .fieldLink RX3 18 "BlueCoats$Givers" "number" "I", .fieldLink RX3 11 "BlueCoats$Givers" "gave" "[I", .fieldLink RX3 15 "BlueCoats$Givers" "supported" "[I"] ++ wsX70 ++ wsX30)
def wsX7_gift : List Cond := .code yX7_gift cX7_gift 3 (some .int) :: ([.fieldLink RX7 26 "BlueCoats" "givers" "LBlueCoats$Givers;", .methodLink RX7 90 yX3_has, .instanceMethod yX3_has, .selects RX3 yX3_has yX3_has, .initialized RX3, .code yX3_has cX3_has 2 (some .boolean), .fieldLink RX3 18 "BlueCoats$Givers" "number" "I", .methodLink RX7 94 yX3_take, .instanceMethod yX3_take, .selects RX3 yX3_take yX3_take, .code yX3_take cX3_take 3 (some .int), .constant RX3 26 (99999), .fieldLink RX3 11 "BlueCoats$Givers" "gave" "[I", .methodLink RX3 22 yX3_has] ++ wsX70 ++ wsX30)
def wsX7_support : List Cond := .code yX7_support cX7_support 3 (some .boolean) :: ([.fieldLink RX7 26 "BlueCoats" "givers" "LBlueCoats$Givers;", .fieldLink RX7 33 "BlueCoats" "children" "LBlueCoats$Children;", .fieldLink RX7 99 "BlueCoats$Givers" "supported" "[I", .methodLink RX7 90 yX3_has, .instanceMethod yX3_has, .selects RX3 yX3_has yX3_has, .initialized RX3, .code yX3_has cX3_has 2 (some .boolean), .fieldLink RX3 18 "BlueCoats$Givers" "number" "I", .methodLink RX7 98 yX1_has, .instanceMethod yX1_has, .selects RX1 yX1_has yX1_has, .initialized RX1, .code yX1_has cX1_has 2 (some .boolean), .fieldLink RX1 30 "BlueCoats$Children" "number" "I"] ++ wsX70 ++ wsX30 ++ wsX10)
def wsX7_child : List Cond := .code yX7_child cX7_child 5 (some .int) :: ([.fieldLink RX7 33 "BlueCoats" "children" "LBlueCoats$Children;", .methodLink RX7 103 yX1_add, .instanceMethod yX1_add, .selects RX1 yX1_add yX1_add, .initialized RX1, .code yX1_add cX1_add 5 (some .int), .fieldLink RX1 30 "BlueCoats$Children" "number" "I", .fieldLink RX1 11 "BlueCoats$Children" "age" "[I", .fieldLink RX1 15 "BlueCoats$Children" "need" "[I", .fieldLink RX1 18 "BlueCoats$Children" "size" "[I", .fieldLink RX1 21 "BlueCoats$Children" "growth" "[I", .fieldLink RX1 24 "BlueCoats$Children" "state" "[I", .fieldLink RX1 27 "BlueCoats$Children" "coat" "[I", .methodLink RX1 34 yX1_canBe, .static yX1_canBe, .code yX1_canBe cX1_canBe 4 (some .boolean)] ++ wsX70 ++ wsX10)
def wsX7_mayCome : List Cond := .code yX7_mayCome cX7_mayCome 2 (some .boolean) :: ([.fieldLink RX7 33 "BlueCoats" "children" "LBlueCoats$Children;", .fieldLink RX7 118 "BlueCoats$Children" "state" "[I", .fieldLink RX7 155 "BlueCoats$Children" "age" "[I", .fieldLink RX7 19 "BlueCoats" "law" "LBlueCoats$Statutes;", .fieldLink RX7 158 "BlueCoats$Statutes" "ageFrom" "I", .fieldLink RX7 161 "BlueCoats$Statutes" "ageTo" "I", .methodLink RX7 98 yX1_has, .instanceMethod yX1_has, .selects RX1 yX1_has yX1_has, .initialized RX1, .code yX1_has cX1_has 2 (some .boolean), .fieldLink RX1 30 "BlueCoats$Children" "number" "I"] ++ wsX70 ++ wsX10 ++ wsX50)
def wsX7_chosenByTurn_r1 : List Cond := [Cond.fieldLink RX7 26 "BlueCoats" "givers" "LBlueCoats$Givers;", Cond.fieldLink RX7 133 "BlueCoats$Givers" "next" "I", Cond.fieldLink RX7 136 "BlueCoats$Givers" "number" "I", Cond.methodLink RX7 139 yX3_childOf, Cond.instanceMethod yX3_childOf, Cond.selects RX3 yX3_childOf yX3_childOf, Cond.initialized RX3, Cond.code yX3_childOf cX3_childOf 2 (some .int), Cond.fieldLink RX3 15 "BlueCoats$Givers" "supported" "[I", Cond.methodLink RX3 22 yX3_has, Cond.instanceMethod yX3_has, Cond.selects RX3 yX3_has yX3_has, Cond.code yX3_has cX3_has 2 (some .boolean), Cond.fieldLink RX3 18 "BlueCoats$Givers" "number" "I", Cond.methodLink RX7 142 yX7_mayCome, Cond.instanceMethod yX7_mayCome, Cond.selects RX7 yX7_mayCome yX7_mayCome, Cond.initialized RX7, Cond.code yX7_mayCome cX7_mayCome 2 (some .boolean), Cond.fieldLink RX7 33 "BlueCoats" "children" "LBlueCoats$Children;", Cond.fieldLink RX7 118 "BlueCoats$Children" "state" "[I", Cond.fieldLink RX7 155 "BlueCoats$Children" "age" "[I", Cond.fieldLink RX7 19 "BlueCoats" "law" "LBlueCoats$Statutes;", Cond.fieldLink RX7 158 "BlueCoats$Statutes" "ageFrom" "I"]
def wsX7_chosenByTurn_r2 : List Cond := [Cond.fieldLink RX7 161 "BlueCoats$Statutes" "ageTo" "I", Cond.methodLink RX7 98 yX1_has, Cond.instanceMethod yX1_has, Cond.selects RX1 yX1_has yX1_has, Cond.initialized RX1, Cond.code yX1_has cX1_has 2 (some .boolean), Cond.fieldLink RX1 30 "BlueCoats$Children" "number" "I"]
def wsX7_chosenByTurn : List Cond := .code yX7_chosenByTurn cX7_chosenByTurn 5 (some .int) :: ((wsX7_chosenByTurn_r1 ++ wsX7_chosenByTurn_r2) ++ wsX70 ++ wsX30 ++ wsX10 ++ wsX50)
def wsX7_chosenByVote_r1 : List Cond := [Cond.fieldLink RX7 33 "BlueCoats" "children" "LBlueCoats$Children;", Cond.fieldLink RX7 145 "BlueCoats$Children" "number" "I", Cond.fieldLink RX7 26 "BlueCoats" "givers" "LBlueCoats$Givers;", Cond.fieldLink RX7 19 "BlueCoats" "law" "LBlueCoats$Statutes;", Cond.fieldLink RX7 146 "BlueCoats$Statutes" "vote" "I", Cond.fieldLink RX7 152 "BlueCoats$Children" "need" "[I", Cond.methodLink RX7 142 yX7_mayCome, Cond.instanceMethod yX7_mayCome, Cond.selects RX7 yX7_mayCome yX7_mayCome, Cond.initialized RX7, Cond.code yX7_mayCome cX7_mayCome 2 (some .boolean), Cond.fieldLink RX7 118 "BlueCoats$Children" "state" "[I", Cond.fieldLink RX7 155 "BlueCoats$Children" "age" "[I", Cond.fieldLink RX7 158 "BlueCoats$Statutes" "ageFrom" "I", Cond.fieldLink RX7 161 "BlueCoats$Statutes" "ageTo" "I", Cond.methodLink RX7 98 yX1_has, Cond.instanceMethod yX1_has, Cond.selects RX1 yX1_has yX1_has, Cond.initialized RX1, Cond.code yX1_has cX1_has 2 (some .boolean), Cond.fieldLink RX1 30 "BlueCoats$Children" "number" "I", Cond.methodLink RX7 149 yX3_votesFor, Cond.instanceMethod yX3_votesFor, Cond.selects RX3 yX3_votesFor yX3_votesFor]
def wsX7_chosenByVote_r2 : List Cond := [Cond.initialized RX3, Cond.code yX3_votesFor cX3_votesFor 5 (some .int), Cond.fieldLink RX3 18 "BlueCoats$Givers" "number" "I", Cond.fieldLink RX3 15 "BlueCoats$Givers" "supported" "[I", Cond.fieldLink RX3 11 "BlueCoats$Givers" "gave" "[I"]
def wsX7_chosenByVote : List Cond := .code yX7_chosenByVote cX7_chosenByVote 6 (some .int) :: ((wsX7_chosenByVote_r1 ++ wsX7_chosenByVote_r2) ++ wsX70 ++ wsX10 ++ wsX50 ++ wsX30)
def wsX7_chosenByNeed : List Cond := .code yX7_chosenByNeed cX7_chosenByNeed 3 (some .int) :: ([.fieldLink RX7 33 "BlueCoats" "children" "LBlueCoats$Children;", .fieldLink RX7 145 "BlueCoats$Children" "number" "I", .fieldLink RX7 152 "BlueCoats$Children" "need" "[I", .methodLink RX7 142 yX7_mayCome, .instanceMethod yX7_mayCome, .selects RX7 yX7_mayCome yX7_mayCome, .initialized RX7, .code yX7_mayCome cX7_mayCome 2 (some .boolean), .fieldLink RX7 118 "BlueCoats$Children" "state" "[I", .fieldLink RX7 155 "BlueCoats$Children" "age" "[I", .fieldLink RX7 19 "BlueCoats" "law" "LBlueCoats$Statutes;", .fieldLink RX7 158 "BlueCoats$Statutes" "ageFrom" "I", .fieldLink RX7 161 "BlueCoats$Statutes" "ageTo" "I", .methodLink RX7 98 yX1_has, .instanceMethod yX1_has, .selects RX1 yX1_has yX1_has, .initialized RX1, .code yX1_has cX1_has 2 (some .boolean), .fieldLink RX1 30 "BlueCoats$Children" "number" "I"] ++ wsX70 ++ wsX10 ++ wsX50)
def wsX7_chosenBy_r1 : List Cond := [Cond.methodLink RX7 124 yX7_chosenByTurn, Cond.instanceMethod yX7_chosenByTurn, Cond.selects RX7 yX7_chosenByTurn yX7_chosenByTurn, Cond.initialized RX7, Cond.code yX7_chosenByTurn cX7_chosenByTurn 5 (some .int), Cond.fieldLink RX7 26 "BlueCoats" "givers" "LBlueCoats$Givers;", Cond.fieldLink RX7 133 "BlueCoats$Givers" "next" "I", Cond.fieldLink RX7 136 "BlueCoats$Givers" "number" "I", Cond.methodLink RX7 139 yX3_childOf, Cond.instanceMethod yX3_childOf, Cond.selects RX3 yX3_childOf yX3_childOf, Cond.initialized RX3, Cond.code yX3_childOf cX3_childOf 2 (some .int), Cond.fieldLink RX3 15 "BlueCoats$Givers" "supported" "[I", Cond.methodLink RX3 22 yX3_has, Cond.instanceMethod yX3_has, Cond.selects RX3 yX3_has yX3_has, Cond.code yX3_has cX3_has 2 (some .boolean), Cond.fieldLink RX3 18 "BlueCoats$Givers" "number" "I", Cond.methodLink RX7 142 yX7_mayCome, Cond.instanceMethod yX7_mayCome, Cond.selects RX7 yX7_mayCome yX7_mayCome, Cond.code yX7_mayCome cX7_mayCome 2 (some .boolean), Cond.fieldLink RX7 33 "BlueCoats" "children" "LBlueCoats$Children;"]
def wsX7_chosenBy_r2 : List Cond := [Cond.fieldLink RX7 118 "BlueCoats$Children" "state" "[I", Cond.fieldLink RX7 155 "BlueCoats$Children" "age" "[I", Cond.fieldLink RX7 19 "BlueCoats" "law" "LBlueCoats$Statutes;", Cond.fieldLink RX7 158 "BlueCoats$Statutes" "ageFrom" "I", Cond.fieldLink RX7 161 "BlueCoats$Statutes" "ageTo" "I", Cond.methodLink RX7 98 yX1_has, Cond.instanceMethod yX1_has, Cond.selects RX1 yX1_has yX1_has, Cond.initialized RX1, Cond.code yX1_has cX1_has 2 (some .boolean), Cond.fieldLink RX1 30 "BlueCoats$Children" "number" "I", Cond.methodLink RX7 127 yX7_chosenByVote, Cond.instanceMethod yX7_chosenByVote, Cond.selects RX7 yX7_chosenByVote yX7_chosenByVote, Cond.code yX7_chosenByVote cX7_chosenByVote 6 (some .int), Cond.fieldLink RX7 145 "BlueCoats$Children" "number" "I", Cond.fieldLink RX7 146 "BlueCoats$Statutes" "vote" "I", Cond.fieldLink RX7 152 "BlueCoats$Children" "need" "[I", Cond.methodLink RX7 149 yX3_votesFor, Cond.instanceMethod yX3_votesFor, Cond.selects RX3 yX3_votesFor yX3_votesFor, Cond.code yX3_votesFor cX3_votesFor 5 (some .int), Cond.fieldLink RX3 11 "BlueCoats$Givers" "gave" "[I", Cond.methodLink RX7 130 yX7_chosenByNeed]
def wsX7_chosenBy_r3 : List Cond := [Cond.instanceMethod yX7_chosenByNeed, Cond.selects RX7 yX7_chosenByNeed yX7_chosenByNeed, Cond.code yX7_chosenByNeed cX7_chosenByNeed 3 (some .int)]
def wsX7_chosenBy : List Cond := .code yX7_chosenBy cX7_chosenBy 2 (some .int) :: ((wsX7_chosenBy_r1 ++ (wsX7_chosenBy_r2 ++ wsX7_chosenBy_r3)) ++ wsX70 ++ wsX30 ++ wsX10 ++ wsX50)
def wsX7_fill_r1 : List Cond := [Cond.fieldLink RX7 33 "BlueCoats" "children" "LBlueCoats$Children;", Cond.fieldLink RX7 19 "BlueCoats" "law" "LBlueCoats$Statutes;", Cond.fieldLink RX7 109 "BlueCoats$Statutes" "places" "I", Cond.fieldLink RX7 118 "BlueCoats$Children" "state" "[I", Cond.methodLink RX7 106 yX1_in, Cond.instanceMethod yX1_in, Cond.selects RX1 yX1_in yX1_in, Cond.initialized RX1, Cond.code yX1_in cX1_in 3 (some .int), Cond.fieldLink RX1 30 "BlueCoats$Children" "number" "I", Cond.fieldLink RX1 24 "BlueCoats$Children" "state" "[I", Cond.methodLink RX7 112 yX5_wayNext, Cond.instanceMethod yX5_wayNext, Cond.selects RX5 yX5_wayNext yX5_wayNext, Cond.initialized RX5, Cond.code yX5_wayNext cX5_wayNext 1 (some .int), Cond.fieldLink RX5 22 "BlueCoats$Statutes" "next" "I", Cond.fieldLink RX5 11 "BlueCoats$Statutes" "cycle" "[I", Cond.methodLink RX7 115 yX7_chosenBy, Cond.instanceMethod yX7_chosenBy, Cond.selects RX7 yX7_chosenBy yX7_chosenBy, Cond.initialized RX7, Cond.code yX7_chosenBy cX7_chosenBy 2 (some .int), Cond.methodLink RX7 124 yX7_chosenByTurn]
def wsX7_fill_r2 : List Cond := [Cond.instanceMethod yX7_chosenByTurn, Cond.selects RX7 yX7_chosenByTurn yX7_chosenByTurn, Cond.code yX7_chosenByTurn cX7_chosenByTurn 5 (some .int), Cond.fieldLink RX7 26 "BlueCoats" "givers" "LBlueCoats$Givers;", Cond.fieldLink RX7 133 "BlueCoats$Givers" "next" "I", Cond.fieldLink RX7 136 "BlueCoats$Givers" "number" "I", Cond.methodLink RX7 139 yX3_childOf, Cond.instanceMethod yX3_childOf, Cond.selects RX3 yX3_childOf yX3_childOf, Cond.initialized RX3, Cond.code yX3_childOf cX3_childOf 2 (some .int), Cond.fieldLink RX3 15 "BlueCoats$Givers" "supported" "[I", Cond.methodLink RX3 22 yX3_has, Cond.instanceMethod yX3_has, Cond.selects RX3 yX3_has yX3_has, Cond.code yX3_has cX3_has 2 (some .boolean), Cond.fieldLink RX3 18 "BlueCoats$Givers" "number" "I", Cond.methodLink RX7 142 yX7_mayCome, Cond.instanceMethod yX7_mayCome, Cond.selects RX7 yX7_mayCome yX7_mayCome, Cond.code yX7_mayCome cX7_mayCome 2 (some .boolean), Cond.fieldLink RX7 155 "BlueCoats$Children" "age" "[I", Cond.fieldLink RX7 158 "BlueCoats$Statutes" "ageFrom" "I", Cond.fieldLink RX7 161 "BlueCoats$Statutes" "ageTo" "I"]
def wsX7_fill_r3 : List Cond := [Cond.methodLink RX7 98 yX1_has, Cond.instanceMethod yX1_has, Cond.selects RX1 yX1_has yX1_has, Cond.code yX1_has cX1_has 2 (some .boolean), Cond.methodLink RX7 127 yX7_chosenByVote, Cond.instanceMethod yX7_chosenByVote, Cond.selects RX7 yX7_chosenByVote yX7_chosenByVote, Cond.code yX7_chosenByVote cX7_chosenByVote 6 (some .int), Cond.fieldLink RX7 145 "BlueCoats$Children" "number" "I", Cond.fieldLink RX7 146 "BlueCoats$Statutes" "vote" "I", Cond.fieldLink RX7 152 "BlueCoats$Children" "need" "[I", Cond.methodLink RX7 149 yX3_votesFor, Cond.instanceMethod yX3_votesFor, Cond.selects RX3 yX3_votesFor yX3_votesFor, Cond.code yX3_votesFor cX3_votesFor 5 (some .int), Cond.fieldLink RX3 11 "BlueCoats$Givers" "gave" "[I", Cond.methodLink RX7 130 yX7_chosenByNeed, Cond.instanceMethod yX7_chosenByNeed, Cond.selects RX7 yX7_chosenByNeed yX7_chosenByNeed, Cond.code yX7_chosenByNeed cX7_chosenByNeed 3 (some .int), Cond.methodLink RX7 121 yX5_goOn, Cond.instanceMethod yX5_goOn, Cond.selects RX5 yX5_goOn yX5_goOn, Cond.code yX5_goOn cX5_goOn 1 none]
def wsX7_fill_r4 : List Cond := [Cond.fieldLink RX5 18 "BlueCoats$Statutes" "ways" "I"]
def wsX7_fill : List Cond := .code yX7_fill cX7_fill 2 (some .int) :: ((wsX7_fill_r1 ++ (wsX7_fill_r2 ++ (wsX7_fill_r3 ++ wsX7_fill_r4))) ++ wsX70 ++ wsX50 ++ wsX10 ++ wsX30)
def wsX7_handIn : List Cond := .code yX7_handIn cX7_handIn 3 none :: ([.fieldLink RX7 40 "BlueCoats" "wardrobe" "LBlueCoats$Wardrobe;", .fieldLink RX7 182 "BlueCoats$Wardrobe" "wearer" "[I", .fieldLink RX7 33 "BlueCoats" "children" "LBlueCoats$Children;", .fieldLink RX7 167 "BlueCoats$Children" "coat" "[I", .methodLink RX7 181 yX6_has, .instanceMethod yX6_has, .selects RX6 yX6_has yX6_has, .initialized RX6, .code yX6_has cX6_has 2 (some .boolean), .fieldLink RX6 25 "BlueCoats$Wardrobe" "number" "I", .methodLink RX7 98 yX1_has, .instanceMethod yX1_has, .selects RX1 yX1_has yX1_has, .initialized RX1, .code yX1_has cX1_has 2 (some .boolean), .fieldLink RX1 30 "BlueCoats$Children" "number" "I"] ++ wsX70 ++ wsX60 ++ wsX10)
def wsX7_year_r1 : List Cond := [Cond.fieldLink RX7 58 "BlueCoats" "years" "I", Cond.fieldLink RX7 33 "BlueCoats" "children" "LBlueCoats$Children;", Cond.fieldLink RX7 145 "BlueCoats$Children" "number" "I", Cond.fieldLink RX7 118 "BlueCoats$Children" "state" "[I", Cond.fieldLink RX7 155 "BlueCoats$Children" "age" "[I", Cond.fieldLink RX7 19 "BlueCoats" "law" "LBlueCoats$Statutes;", Cond.fieldLink RX7 161 "BlueCoats$Statutes" "ageTo" "I", Cond.fieldLink RX7 167 "BlueCoats$Children" "coat" "[I", Cond.fieldLink RX7 40 "BlueCoats" "wardrobe" "LBlueCoats$Wardrobe;", Cond.fieldLink RX7 173 "BlueCoats$Wardrobe" "number" "I", Cond.fieldLink RX7 174 "BlueCoats$Statutes" "wear" "I", Cond.methodLink RX7 164 yX1_grow, Cond.instanceMethod yX1_grow, Cond.selects RX1 yX1_grow yX1_grow, Cond.initialized RX1, Cond.code yX1_grow cX1_grow 2 none, Cond.fieldLink RX1 11 "BlueCoats$Children" "age" "[I", Cond.methodLink RX1 42 Lib.Math.min.name, Cond.static Lib.Math.min.name, Cond.initialized "java/lang/Math", Cond.code Lib.Math.min.name Lib.Math.min.code 2 (some .int), Cond.fieldLink RX1 18 "BlueCoats$Children" "size" "[I", Cond.fieldLink RX1 21 "BlueCoats$Children" "growth" "[I", Cond.methodLink RX1 38 yX1_has]
def wsX7_year_r2 : List Cond := [Cond.instanceMethod yX1_has, Cond.selects RX1 yX1_has yX1_has, Cond.code yX1_has cX1_has 2 (some .boolean), Cond.fieldLink RX1 30 "BlueCoats$Children" "number" "I", Cond.methodLink RX7 170 yX7_handIn, Cond.instanceMethod yX7_handIn, Cond.selects RX7 yX7_handIn yX7_handIn, Cond.initialized RX7, Cond.code yX7_handIn cX7_handIn 3 none, Cond.fieldLink RX7 182 "BlueCoats$Wardrobe" "wearer" "[I", Cond.methodLink RX7 181 yX6_has, Cond.instanceMethod yX6_has, Cond.selects RX6 yX6_has yX6_has, Cond.initialized RX6, Cond.code yX6_has cX6_has 2 (some .boolean), Cond.fieldLink RX6 25 "BlueCoats$Wardrobe" "number" "I", Cond.methodLink RX7 98 yX1_has, Cond.methodLink RX7 177 yX6_wearOut, Cond.instanceMethod yX6_wearOut, Cond.selects RX6 yX6_wearOut yX6_wearOut, Cond.code yX6_wearOut cX6_wearOut 3 (some .boolean), Cond.fieldLink RX6 15 "BlueCoats$Wardrobe" "worn" "[I", Cond.fieldLink RX6 18 "BlueCoats$Wardrobe" "gone" "[Z", Cond.methodLink RX6 29 yX6_has]
def wsX7_year : List Cond := .code yX7_year cX7_year 3 (some .int) :: ((wsX7_year_r1 ++ wsX7_year_r2) ++ wsX70 ++ wsX10 ++ wsX50 ++ wsX60)
def wsX7_handOut : List Cond := .code yX7_handOut cX7_handOut 3 none :: ([.fieldLink RX7 40 "BlueCoats" "wardrobe" "LBlueCoats$Wardrobe;", .fieldLink RX7 33 "BlueCoats" "children" "LBlueCoats$Children;", .fieldLink RX7 182 "BlueCoats$Wardrobe" "wearer" "[I", .fieldLink RX7 167 "BlueCoats$Children" "coat" "[I", .methodLink RX7 181 yX6_has, .instanceMethod yX6_has, .selects RX6 yX6_has yX6_has, .initialized RX6, .code yX6_has cX6_has 2 (some .boolean), .fieldLink RX6 25 "BlueCoats$Wardrobe" "number" "I", .methodLink RX7 98 yX1_has, .instanceMethod yX1_has, .selects RX1 yX1_has yX1_has, .initialized RX1, .code yX1_has cX1_has 2 (some .boolean), .fieldLink RX1 30 "BlueCoats$Children" "number" "I"] ++ wsX70 ++ wsX60 ++ wsX10)
def wsX7_feast_r1 : List Cond := [Cond.fieldLink RX7 47 "BlueCoats" "dressing" "LBlueCoats$Dressing;", Cond.fieldLink RX7 33 "BlueCoats" "children" "LBlueCoats$Children;", Cond.fieldLink RX7 40 "BlueCoats" "wardrobe" "LBlueCoats$Wardrobe;", Cond.fieldLink RX7 19 "BlueCoats" "law" "LBlueCoats$Statutes;", Cond.fieldLink RX7 185 "BlueCoats$Statutes" "spare" "I", Cond.fieldLink RX7 173 "BlueCoats$Wardrobe" "number" "I", Cond.fieldLink RX7 195 "BlueCoats$Dressing" "guests" "I", Cond.fieldLink RX7 198 "BlueCoats$Dressing" "guest" "[I", Cond.fieldLink RX7 201 "BlueCoats$Dressing" "given" "[I", Cond.fieldLink RX7 204 "BlueCoats$Children" "size" "[I", Cond.methodLink RX7 188 yX2_plan, Cond.instanceMethod yX2_plan, Cond.selects RX2 yX2_plan yX2_plan, Cond.initialized RX2, Cond.code yX2_plan cX2_plan 4 none, Cond.methodLink RX2 25 yX2_gather, Cond.instanceMethod yX2_gather, Cond.selects RX2 yX2_gather yX2_gather, Cond.code yX2_gather cX2_gather 3 none, Cond.fieldLink RX2 39 "BlueCoats$Dressing" "guests" "I", Cond.fieldLink RX2 52 "BlueCoats$Children" "number" "I", Cond.fieldLink RX2 57 "BlueCoats$Children" "state" "[I", Cond.fieldLink RX2 11 "BlueCoats$Dressing" "guest" "[I", Cond.fieldLink RX2 18 "BlueCoats$Dressing" "size" "[I"]
def wsX7_feast_r2 : List Cond := [Cond.fieldLink RX2 60 "BlueCoats$Children" "size" "[I", Cond.methodLink RX2 29 yX2_measure, Cond.instanceMethod yX2_measure, Cond.selects RX2 yX2_measure yX2_measure, Cond.code yX2_measure cX2_measure 7 none, Cond.fieldLink RX2 21 "BlueCoats$Dressing" "fitting" "[J", Cond.methodLink RX2 61 yX6_fitting, Cond.instanceMethod yX6_fitting, Cond.selects RX6 yX6_fitting yX6_fitting, Cond.initialized RX6, Cond.code yX6_fitting cX6_fitting 6 (some .long), Cond.fieldLink RX6 25 "BlueCoats$Wardrobe" "number" "I", Cond.fieldLink RX6 18 "BlueCoats$Wardrobe" "gone" "[Z", Cond.fieldLink RX6 11 "BlueCoats$Wardrobe" "size" "[I", Cond.methodLink RX2 33 yX2_chooseDressed, Cond.instanceMethod yX2_chooseDressed, Cond.selects RX2 yX2_chooseDressed yX2_chooseDressed, Cond.code yX2_chooseDressed cX2_chooseDressed 4 none, Cond.fieldLink RX2 43 "BlueCoats$Dressing" "dressed" "I", Cond.methodLink RX2 66 yX2_greatestBut, Cond.instanceMethod yX2_greatestBut, Cond.selects RX2 yX2_greatestBut yX2_greatestBut, Cond.code yX2_greatestBut cX2_greatestBut 5 (some .int), Cond.methodLink RX2 69 yX2_canDress]
def wsX7_feast_r3 : List Cond := [Cond.instanceMethod yX2_canDress, Cond.selects RX2 yX2_canDress yX2_canDress, Cond.code yX2_canDress cX2_canDress 3 (some .boolean), Cond.methodLink RX2 73 yJ13_bitCount_95d88, Cond.static yJ13_bitCount_95d88, Cond.initialized RJ13, Cond.code yJ13_bitCount_95d88 cJ13_bitCount_95d88 2 (some .int), Cond.constantLong RJ13 314 (6148914691236517205), Cond.constantLong RJ13 316 (3689348814741910323), Cond.constantLong RJ13 318 (1085102592571150095), Cond.methodLink RX2 46 yJ6_bitCount_0f7a4, Cond.static yJ6_bitCount_0f7a4, Cond.initialized RJ6, Cond.code yJ6_bitCount_0f7a4 cJ6_bitCount_0f7a4 1 (some .int), Cond.constant RJ6 265 (1431655765), Cond.constant RJ6 266 (858993459), Cond.constant RJ6 267 (252645135), Cond.methodLink RX2 36 yX2_chooseCoats, Cond.instanceMethod yX2_chooseCoats, Cond.selects RX2 yX2_chooseCoats yX2_chooseCoats, Cond.code yX2_chooseCoats cX2_chooseCoats 7 none, Cond.fieldLink RX2 15 "BlueCoats$Dressing" "given" "[I", Cond.constantLong RX2 82 (-1), Cond.methodLink RX2 78 yX2_neededBy]
def wsX7_feast_r4 : List Cond := [Cond.instanceMethod yX2_neededBy, Cond.selects RX2 yX2_neededBy yX2_neededBy, Cond.code yX2_neededBy cX2_neededBy 9 (some .long), Cond.methodLink RX2 84 yX2_leastOf, Cond.static yX2_leastOf, Cond.code yX2_leastOf cX2_leastOf 3 (some .int), Cond.methodLink RX7 192 yX2_newCoats, Cond.instanceMethod yX2_newCoats, Cond.selects RX2 yX2_newCoats yX2_newCoats, Cond.code yX2_newCoats cX2_newCoats 1 (some .int), Cond.methodLink RX7 170 yX7_handIn, Cond.instanceMethod yX7_handIn, Cond.selects RX7 yX7_handIn yX7_handIn, Cond.initialized RX7, Cond.code yX7_handIn cX7_handIn 3 none, Cond.fieldLink RX7 182 "BlueCoats$Wardrobe" "wearer" "[I", Cond.fieldLink RX7 167 "BlueCoats$Children" "coat" "[I", Cond.methodLink RX7 181 yX6_has, Cond.instanceMethod yX6_has, Cond.selects RX6 yX6_has yX6_has, Cond.code yX6_has cX6_has 2 (some .boolean), Cond.methodLink RX7 98 yX1_has, Cond.instanceMethod yX1_has, Cond.selects RX1 yX1_has yX1_has]
def wsX7_feast_r5 : List Cond := [Cond.initialized RX1, Cond.code yX1_has cX1_has 2 (some .boolean), Cond.fieldLink RX1 30 "BlueCoats$Children" "number" "I", Cond.methodLink RX7 207 yX6_cut, Cond.instanceMethod yX6_cut, Cond.selects RX6 yX6_cut yX6_cut, Cond.code yX6_cut cX6_cut 2 (some .int), Cond.fieldLink RX6 15 "BlueCoats$Wardrobe" "worn" "[I", Cond.fieldLink RX6 22 "BlueCoats$Wardrobe" "wearer" "[I", Cond.methodLink RX7 210 yX7_handOut, Cond.instanceMethod yX7_handOut, Cond.selects RX7 yX7_handOut yX7_handOut, Cond.code yX7_handOut cX7_handOut 3 none]
def wsX7_feast : List Cond := .code yX7_feast cX7_feast 5 (some .int) :: ((wsX7_feast_r1 ++ (wsX7_feast_r2 ++ (wsX7_feast_r3 ++ (wsX7_feast_r4 ++ wsX7_feast_r5)))) ++ wsX70 ++ wsX50 ++ wsX60 ++ wsX20 ++ wsX10)
def wsX7_legacy : List Cond := .code yX7_legacy cX7_legacy 3 (some .int) :: ([.fieldLink RX7 54 "BlueCoats" "chest" "LBlueCoats$Chest;", .methodLink RX7 214 yX0_add, .instanceMethod yX0_add, .selects RX0 yX0_add yX0_add, .initialized RX0, .code yX0_add cX0_add 3 (some .int), .fieldLink RX0 30 "BlueCoats$Chest" "number" "I", .fieldLink RX0 21 "BlueCoats$Chest" "coins" "[I", .fieldLink RX0 24 "BlueCoats$Chest" "ends" "[I"] ++ wsX70 ++ wsX00)
def wsX7_need : List Cond := .code yX7_need cX7_need 3 (some .boolean) :: ([.fieldLink RX7 54 "BlueCoats" "chest" "LBlueCoats$Chest;", .fieldLink RX7 216 "BlueCoats$Chest" "need" "[I"] ++ wsX70 ++ wsX00)
def wsX7_owed_r1 : List Cond := [Cond.fieldLink RX7 54 "BlueCoats" "chest" "LBlueCoats$Chest;", Cond.fieldLink RX7 219 "BlueCoats$Chest" "toEnd" "[I", Cond.fieldLink RX7 222 "BlueCoats$Chest" "number" "I", Cond.fieldLink RX7 223 "BlueCoats$Chest" "fromLegacy" "[I", Cond.fieldLink RX7 226 "BlueCoats$Chest" "shortfall" "I", Cond.fieldLink RX7 229 "BlueCoats$Chest" "proof" "I", Cond.methodLink RX7 217 yX0_plan, Cond.instanceMethod yX0_plan, Cond.selects RX0 yX0_plan yX0_plan, Cond.initialized RX0, Cond.code yX0_plan cX0_plan 1 none, Cond.methodLink RX0 34 yX0_planEnds, Cond.instanceMethod yX0_planEnds, Cond.selects RX0 yX0_planEnds yX0_planEnds, Cond.code yX0_planEnds cX0_planEnds 5 none, Cond.fieldLink RX0 11 "BlueCoats$Chest" "need" "[I", Cond.fieldLink RX0 30 "BlueCoats$Chest" "number" "I", Cond.fieldLink RX0 48 "BlueCoats$Chest" "shortfall" "I", Cond.fieldLink RX0 51 "BlueCoats$Chest" "proof" "I", Cond.fieldLink RX0 27 "BlueCoats$Chest" "lack" "[I", Cond.fieldLink RX0 15 "BlueCoats$Chest" "toEnd" "[I", Cond.methodLink RX0 40 yX0_setLack, Cond.instanceMethod yX0_setLack, Cond.selects RX0 yX0_setLack yX0_setLack]
def wsX7_owed_r2 : List Cond := [Cond.code yX0_setLack cX0_setLack 4 none, Cond.methodLink RX0 44 yX0_lessenLack, Cond.instanceMethod yX0_lessenLack, Cond.selects RX0 yX0_lessenLack yX0_lessenLack, Cond.code yX0_lessenLack cX0_lessenLack 3 none, Cond.fieldLink RX0 24 "BlueCoats$Chest" "ends" "[I", Cond.fieldLink RX0 21 "BlueCoats$Chest" "coins" "[I", Cond.methodLink RX0 37 yX0_planLegacies, Cond.instanceMethod yX0_planLegacies, Cond.selects RX0 yX0_planLegacies yX0_planLegacies, Cond.code yX0_planLegacies cX0_planLegacies 5 none, Cond.fieldLink RX0 18 "BlueCoats$Chest" "fromLegacy" "[I", Cond.methodLink RX0 54 yX0_greatestLack, Cond.instanceMethod yX0_greatestLack, Cond.selects RX0 yX0_greatestLack yX0_greatestLack, Cond.code yX0_greatestLack cX0_greatestLack 3 (some .int), Cond.methodLink RX0 58 Lib.Math.max.name, Cond.static Lib.Math.max.name, Cond.initialized "java/lang/Math", Cond.code Lib.Math.max.name Lib.Math.max.code 2 (some .int)]
def wsX7_owed : List Cond := .code yX7_owed cX7_owed 3 (some .int) :: ((wsX7_owed_r1 ++ wsX7_owed_r2) ++ wsX70 ++ wsX00)
def wsX7_pay_r1 : List Cond := [Cond.fieldLink RX7 54 "BlueCoats" "chest" "LBlueCoats$Chest;", Cond.methodLink RX7 217 yX0_plan, Cond.instanceMethod yX0_plan, Cond.selects RX0 yX0_plan yX0_plan, Cond.initialized RX0, Cond.code yX0_plan cX0_plan 1 none, Cond.methodLink RX0 34 yX0_planEnds, Cond.instanceMethod yX0_planEnds, Cond.selects RX0 yX0_planEnds yX0_planEnds, Cond.code yX0_planEnds cX0_planEnds 5 none, Cond.fieldLink RX0 11 "BlueCoats$Chest" "need" "[I", Cond.fieldLink RX0 30 "BlueCoats$Chest" "number" "I", Cond.fieldLink RX0 48 "BlueCoats$Chest" "shortfall" "I", Cond.fieldLink RX0 51 "BlueCoats$Chest" "proof" "I", Cond.fieldLink RX0 27 "BlueCoats$Chest" "lack" "[I", Cond.fieldLink RX0 15 "BlueCoats$Chest" "toEnd" "[I", Cond.methodLink RX0 40 yX0_setLack, Cond.instanceMethod yX0_setLack, Cond.selects RX0 yX0_setLack yX0_setLack, Cond.code yX0_setLack cX0_setLack 4 none, Cond.methodLink RX0 44 yX0_lessenLack, Cond.instanceMethod yX0_lessenLack, Cond.selects RX0 yX0_lessenLack yX0_lessenLack, Cond.code yX0_lessenLack cX0_lessenLack 3 none]
def wsX7_pay_r2 : List Cond := [Cond.fieldLink RX0 24 "BlueCoats$Chest" "ends" "[I", Cond.fieldLink RX0 21 "BlueCoats$Chest" "coins" "[I", Cond.methodLink RX0 37 yX0_planLegacies, Cond.instanceMethod yX0_planLegacies, Cond.selects RX0 yX0_planLegacies yX0_planLegacies, Cond.code yX0_planLegacies cX0_planLegacies 5 none, Cond.fieldLink RX0 18 "BlueCoats$Chest" "fromLegacy" "[I", Cond.methodLink RX0 54 yX0_greatestLack, Cond.instanceMethod yX0_greatestLack, Cond.selects RX0 yX0_greatestLack yX0_greatestLack, Cond.code yX0_greatestLack cX0_greatestLack 3 (some .int), Cond.methodLink RX0 58 Lib.Math.max.name, Cond.static Lib.Math.max.name, Cond.initialized "java/lang/Math", Cond.code Lib.Math.max.name Lib.Math.max.code 2 (some .int), Cond.methodLink RX7 232 yX0_payPlanned, Cond.instanceMethod yX0_payPlanned, Cond.selects RX0 yX0_payPlanned yX0_payPlanned, Cond.code yX0_payPlanned cX0_payPlanned 3 (some .int)]
def wsX7_pay : List Cond := .code yX7_pay cX7_pay 1 (some .int) :: ((wsX7_pay_r1 ++ wsX7_pay_r2) ++ wsX70 ++ wsX00)
def wsX7_look_r1 : List Cond := [Cond.classLink RX7 235 "java/lang/IndexOutOfBoundsException", Cond.initialized "java/lang/IndexOutOfBoundsException", Cond.classLink RX7 242 "java/util/NoSuchElementException", Cond.initialized "java/util/NoSuchElementException", Cond.fieldLink RX7 33 "BlueCoats" "children" "LBlueCoats$Children;", Cond.fieldLink RX7 155 "BlueCoats$Children" "age" "[I", Cond.fieldLink RX7 152 "BlueCoats$Children" "need" "[I", Cond.fieldLink RX7 204 "BlueCoats$Children" "size" "[I", Cond.fieldLink RX7 118 "BlueCoats$Children" "state" "[I", Cond.fieldLink RX7 167 "BlueCoats$Children" "coat" "[I", Cond.fieldLink RX7 26 "BlueCoats" "givers" "LBlueCoats$Givers;", Cond.fieldLink RX7 19 "BlueCoats" "law" "LBlueCoats$Statutes;", Cond.fieldLink RX7 146 "BlueCoats$Statutes" "vote" "I", Cond.methodLink RX7 98 yX1_has, Cond.instanceMethod yX1_has, Cond.selects RX1 yX1_has yX1_has, Cond.initialized RX1, Cond.code yX1_has cX1_has 2 (some .boolean), Cond.fieldLink RX1 30 "BlueCoats$Children" "number" "I", Cond.methodLink RX7 149 yX3_votesFor, Cond.instanceMethod yX3_votesFor, Cond.selects RX3 yX3_votesFor yX3_votesFor, Cond.initialized RX3, Cond.code yX3_votesFor cX3_votesFor 5 (some .int)]
def wsX7_look_r2 : List Cond := [Cond.fieldLink RX3 18 "BlueCoats$Givers" "number" "I", Cond.fieldLink RX3 15 "BlueCoats$Givers" "supported" "[I", Cond.fieldLink RX3 11 "BlueCoats$Givers" "gave" "[I"]
def wsX7_look : List Cond := .code yX7_look cX7_look 3 (some .int) :: ((wsX7_look_r1 ++ wsX7_look_r2) ++ wsX70 ++ wsX10 ++ wsX50 ++ wsX30 ++ (vx_atS RX7 239 "java/lang/IndexOutOfBoundsException" ["java/lang/RuntimeException", "java/lang/Exception"]).filter goodWord ++ (vx_atS RX7 246 "java/util/NoSuchElementException" ["java/lang/RuntimeException", "java/lang/Exception"]).filter goodWord)
def wsX7_coat : List Cond := .code yX7_coat cX7_coat 3 (some .int) :: ([.fieldLink RX7 40 "BlueCoats" "wardrobe" "LBlueCoats$Wardrobe;", .fieldLink RX7 247 "BlueCoats$Wardrobe" "size" "[I", .fieldLink RX7 248 "BlueCoats$Wardrobe" "worn" "[I", .fieldLink RX7 251 "BlueCoats$Wardrobe" "gone" "[Z", .fieldLink RX7 182 "BlueCoats$Wardrobe" "wearer" "[I", .methodLink RX7 181 yX6_has, .instanceMethod yX6_has, .selects RX6 yX6_has yX6_has, .initialized RX6, .code yX6_has cX6_has 2 (some .boolean), .fieldLink RX6 25 "BlueCoats$Wardrobe" "number" "I"] ++ wsX70 ++ wsX60)
def wsX7_count_r1 : List Cond := [Cond.fieldLink RX7 26 "BlueCoats" "givers" "LBlueCoats$Givers;", Cond.fieldLink RX7 136 "BlueCoats$Givers" "number" "I", Cond.fieldLink RX7 33 "BlueCoats" "children" "LBlueCoats$Children;", Cond.fieldLink RX7 145 "BlueCoats$Children" "number" "I", Cond.fieldLink RX7 40 "BlueCoats" "wardrobe" "LBlueCoats$Wardrobe;", Cond.fieldLink RX7 173 "BlueCoats$Wardrobe" "number" "I", Cond.fieldLink RX7 54 "BlueCoats" "chest" "LBlueCoats$Chest;", Cond.fieldLink RX7 222 "BlueCoats$Chest" "number" "I", Cond.fieldLink RX7 133 "BlueCoats$Givers" "next" "I", Cond.fieldLink RX7 19 "BlueCoats" "law" "LBlueCoats$Statutes;", Cond.fieldLink RX7 58 "BlueCoats" "years" "I", Cond.methodLink RX7 106 yX1_in, Cond.instanceMethod yX1_in, Cond.selects RX1 yX1_in yX1_in, Cond.initialized RX1, Cond.code yX1_in cX1_in 3 (some .int), Cond.fieldLink RX1 30 "BlueCoats$Children" "number" "I", Cond.fieldLink RX1 24 "BlueCoats$Children" "state" "[I", Cond.methodLink RX7 112 yX5_wayNext, Cond.instanceMethod yX5_wayNext, Cond.selects RX5 yX5_wayNext yX5_wayNext, Cond.initialized RX5, Cond.code yX5_wayNext cX5_wayNext 1 (some .int), Cond.fieldLink RX5 22 "BlueCoats$Statutes" "next" "I"]
def wsX7_count_r2 : List Cond := [Cond.fieldLink RX5 11 "BlueCoats$Statutes" "cycle" "[I"]
def wsX7_count : List Cond := .code yX7_count cX7_count 2 (some .int) :: ((wsX7_count_r1 ++ wsX7_count_r2) ++ wsX70 ++ wsX30 ++ wsX10 ++ wsX60 ++ wsX00 ++ wsX50)
def wsX8_init_r1 : List Cond := [Cond.methodLink RX8 1 objectInit, Cond.instanceMethod objectInit, Cond.code objectInit ⟨#[0xb1]⟩ 1 none, Cond.arrayClass .int, Cond.fieldLink RX8 7 "BlueCoatsModel" "tape" "[I", Cond.fieldLink RX8 13 "BlueCoatsModel" "cycle" "[I", Cond.fieldLink RX8 16 "BlueCoatsModel" "cycleMany" "I", Cond.fieldLink RX8 20 "BlueCoatsModel" "vote" "I", Cond.fieldLink RX8 23 "BlueCoatsModel" "low" "I", Cond.fieldLink RX8 26 "BlueCoatsModel" "high" "I", Cond.fieldLink RX8 29 "BlueCoatsModel" "wear" "I", Cond.fieldLink RX8 32 "BlueCoatsModel" "spare" "I", Cond.fieldLink RX8 35 "BlueCoatsModel" "places" "I", Cond.fieldLink RX8 38 "BlueCoatsModel" "faultPlace" "I", Cond.fieldLink RX8 41 "BlueCoatsModel" "gave" "[I", Cond.fieldLink RX8 44 "BlueCoatsModel" "supports" "[I", Cond.fieldLink RX8 47 "BlueCoatsModel" "age" "[I", Cond.fieldLink RX8 50 "BlueCoatsModel" "want" "[I", Cond.fieldLink RX8 53 "BlueCoatsModel" "size" "[I", Cond.fieldLink RX8 56 "BlueCoatsModel" "growth" "[I", Cond.fieldLink RX8 59 "BlueCoatsModel" "state" "[I", Cond.fieldLink RX8 62 "BlueCoatsModel" "coatSize" "[I", Cond.fieldLink RX8 65 "BlueCoatsModel" "worn" "[I", Cond.arrayClass .boolean]
def wsX8_init_r2 : List Cond := [Cond.fieldLink RX8 68 "BlueCoatsModel" "gone" "[Z", Cond.fieldLink RX8 72 "BlueCoatsModel" "wearer" "[I", Cond.fieldLink RX8 75 "BlueCoatsModel" "coins" "[I", Cond.fieldLink RX8 78 "BlueCoatsModel" "ends" "[I", Cond.fieldLink RX8 81 "BlueCoatsModel" "needs" "[I", Cond.fieldLink RX8 84 "BlueCoatsModel" "words" "[I", Cond.fieldLink RX8 87 "BlueCoatsModel" "told" "[Z", Cond.fieldLink RX8 90 "BlueCoatsModel" "rules" "[I", Cond.fieldLink RX8 93 "BlueCoatsModel" "inside" "[I", Cond.constant RX8 96 (65536), Cond.fieldLink RX8 97 "BlueCoatsModel" "can" "[Z", Cond.fieldLink RX8 100 "BlueCoatsModel" "used" "[Z", Cond.fieldLink RX8 103 "BlueCoatsModel" "given" "[I", Cond.fieldLink RX8 106 "BlueCoatsModel" "gets" "[I", Cond.fieldLink RX8 109 "BlueCoatsModel" "pays" "[I"]
def wsX8_init : List Cond := .code yX8_init cX8_init 1 none :: ((wsX8_init_r1 ++ wsX8_init_r2) ++ wsX80)
def wsX8_thrown : List Cond := .code yX8_thrown cX8_thrown 1 (some .int) :: ([.fieldLink RX8 112 "BlueCoatsModel" "thrown" "I"] ++ wsX80)
def wsX8_feed : List Cond := .code yX8_feed cX8_feed 8 (some .int) :: ([.fieldLink RX8 112 "BlueCoatsModel" "thrown" "I", .fieldLink RX8 115 "BlueCoatsModel" "tapeSize" "I", .fieldLink RX8 7 "BlueCoatsModel" "tape" "[I"] ++ wsX80)
def wsX8_wrong : List Cond := .code yX8_wrong cX8_wrong 3 (some .boolean) :: ([.fieldLink RX8 118 "BlueCoatsModel" "fault" "I", .fieldLink RX8 38 "BlueCoatsModel" "faultPlace" "I"] ++ wsX80)
def wsX8_wordAt : List Cond := .code yX8_wordAt cX8_wordAt 8 (some .int) :: ([.fieldLink RX8 84 "BlueCoatsModel" "words" "[I", .fieldLink RX8 7 "BlueCoatsModel" "tape" "[I"] ++ wsX80)
def wsX8_isSmall : List Cond := .code yX8_isSmall cX8_isSmall 2 (some .boolean) :: ([.fieldLink RX8 121 "BlueCoatsModel" "end" "I", .fieldLink RX8 7 "BlueCoatsModel" "tape" "[I"] ++ wsX80)
def wsX8_isDigit : List Cond := .code yX8_isDigit cX8_isDigit 2 (some .boolean) :: ([.fieldLink RX8 121 "BlueCoatsModel" "end" "I", .fieldLink RX8 7 "BlueCoatsModel" "tape" "[I"] ++ wsX80)
def wsX8_take : List Cond := .code yX8_take cX8_take 1 none :: ([.fieldLink RX8 124 "BlueCoatsModel" "next" "I", .fieldLink RX8 121 "BlueCoatsModel" "end" "I", .fieldLink RX8 7 "BlueCoatsModel" "tape" "[I", .fieldLink RX8 127 "BlueCoatsModel" "place" "I", .fieldLink RX8 130 "BlueCoatsModel" "kind" "I", .fieldLink RX8 141 "BlueCoatsModel" "which" "I", .constant RX8 147 (99999), .methodLink RX8 133 yX8_isSmall, .instanceMethod yX8_isSmall, .selects RX8 yX8_isSmall yX8_isSmall, .initialized RX8, .code yX8_isSmall cX8_isSmall 2 (some .boolean), .methodLink RX8 137 yX8_wordAt, .instanceMethod yX8_wordAt, .selects RX8 yX8_wordAt yX8_wordAt, .code yX8_wordAt cX8_wordAt 8 (some .int), .fieldLink RX8 84 "BlueCoatsModel" "words" "[I", .methodLink RX8 144 yX8_isDigit, .instanceMethod yX8_isDigit, .selects RX8 yX8_isDigit yX8_isDigit, .code yX8_isDigit cX8_isDigit 2 (some .boolean)] ++ wsX80)
def wsX8_number_r1 : List Cond := [Cond.fieldLink RX8 130 "BlueCoatsModel" "kind" "I", Cond.fieldLink RX8 127 "BlueCoatsModel" "place" "I", Cond.fieldLink RX8 141 "BlueCoatsModel" "which" "I", Cond.fieldLink RX8 152 "BlueCoatsModel" "read" "I", Cond.methodLink RX8 148 yX8_wrong, Cond.instanceMethod yX8_wrong, Cond.selects RX8 yX8_wrong yX8_wrong, Cond.initialized RX8, Cond.code yX8_wrong cX8_wrong 3 (some .boolean), Cond.fieldLink RX8 118 "BlueCoatsModel" "fault" "I", Cond.fieldLink RX8 38 "BlueCoatsModel" "faultPlace" "I", Cond.methodLink RX8 155 yX8_take, Cond.instanceMethod yX8_take, Cond.selects RX8 yX8_take yX8_take, Cond.code yX8_take cX8_take 1 none, Cond.fieldLink RX8 124 "BlueCoatsModel" "next" "I", Cond.fieldLink RX8 121 "BlueCoatsModel" "end" "I", Cond.fieldLink RX8 7 "BlueCoatsModel" "tape" "[I", Cond.constant RX8 147 (99999), Cond.methodLink RX8 133 yX8_isSmall, Cond.instanceMethod yX8_isSmall, Cond.selects RX8 yX8_isSmall yX8_isSmall, Cond.code yX8_isSmall cX8_isSmall 2 (some .boolean), Cond.methodLink RX8 137 yX8_wordAt]
def wsX8_number_r2 : List Cond := [Cond.instanceMethod yX8_wordAt, Cond.selects RX8 yX8_wordAt yX8_wordAt, Cond.code yX8_wordAt cX8_wordAt 8 (some .int), Cond.fieldLink RX8 84 "BlueCoatsModel" "words" "[I", Cond.methodLink RX8 144 yX8_isDigit, Cond.instanceMethod yX8_isDigit, Cond.selects RX8 yX8_isDigit yX8_isDigit, Cond.code yX8_isDigit cX8_isDigit 2 (some .boolean)]
def wsX8_number : List Cond := .code yX8_number cX8_number 3 (some .boolean) :: ((wsX8_number_r1 ++ wsX8_number_r2) ++ wsX80)
def wsX8_cycleLine_r1 : List Cond := [Cond.fieldLink RX8 158 "BlueCoatsModel" "readMany" "I", Cond.fieldLink RX8 130 "BlueCoatsModel" "kind" "I", Cond.fieldLink RX8 141 "BlueCoatsModel" "which" "I", Cond.fieldLink RX8 127 "BlueCoatsModel" "place" "I", Cond.fieldLink RX8 13 "BlueCoatsModel" "cycle" "[I", Cond.methodLink RX8 148 yX8_wrong, Cond.instanceMethod yX8_wrong, Cond.selects RX8 yX8_wrong yX8_wrong, Cond.initialized RX8, Cond.code yX8_wrong cX8_wrong 3 (some .boolean), Cond.fieldLink RX8 118 "BlueCoatsModel" "fault" "I", Cond.fieldLink RX8 38 "BlueCoatsModel" "faultPlace" "I", Cond.methodLink RX8 155 yX8_take, Cond.instanceMethod yX8_take, Cond.selects RX8 yX8_take yX8_take, Cond.code yX8_take cX8_take 1 none, Cond.fieldLink RX8 124 "BlueCoatsModel" "next" "I", Cond.fieldLink RX8 121 "BlueCoatsModel" "end" "I", Cond.fieldLink RX8 7 "BlueCoatsModel" "tape" "[I", Cond.constant RX8 147 (99999), Cond.methodLink RX8 133 yX8_isSmall, Cond.instanceMethod yX8_isSmall, Cond.selects RX8 yX8_isSmall yX8_isSmall, Cond.code yX8_isSmall cX8_isSmall 2 (some .boolean)]
def wsX8_cycleLine_r2 : List Cond := [Cond.methodLink RX8 137 yX8_wordAt, Cond.instanceMethod yX8_wordAt, Cond.selects RX8 yX8_wordAt yX8_wordAt, Cond.code yX8_wordAt cX8_wordAt 8 (some .int), Cond.fieldLink RX8 84 "BlueCoatsModel" "words" "[I", Cond.methodLink RX8 144 yX8_isDigit, Cond.instanceMethod yX8_isDigit, Cond.selects RX8 yX8_isDigit yX8_isDigit, Cond.code yX8_isDigit cX8_isDigit 2 (some .boolean)]
def wsX8_cycleLine : List Cond := .code yX8_cycleLine cX8_cycleLine 2 (some .boolean) :: ((wsX8_cycleLine_r1 ++ wsX8_cycleLine_r2) ++ wsX80)
def wsX8_line_r1 : List Cond := [Cond.fieldLink RX8 130 "BlueCoatsModel" "kind" "I", Cond.fieldLink RX8 141 "BlueCoatsModel" "which" "I", Cond.fieldLink RX8 127 "BlueCoatsModel" "place" "I", Cond.fieldLink RX8 87 "BlueCoatsModel" "told" "[Z", Cond.fieldLink RX8 90 "BlueCoatsModel" "rules" "[I", Cond.fieldLink RX8 152 "BlueCoatsModel" "read" "I", Cond.fieldLink RX8 168 "BlueCoatsModel" "readHigh" "I", Cond.methodLink RX8 148 yX8_wrong, Cond.instanceMethod yX8_wrong, Cond.selects RX8 yX8_wrong yX8_wrong, Cond.initialized RX8, Cond.code yX8_wrong cX8_wrong 3 (some .boolean), Cond.fieldLink RX8 118 "BlueCoatsModel" "fault" "I", Cond.fieldLink RX8 38 "BlueCoatsModel" "faultPlace" "I", Cond.methodLink RX8 155 yX8_take, Cond.instanceMethod yX8_take, Cond.selects RX8 yX8_take yX8_take, Cond.code yX8_take cX8_take 1 none, Cond.fieldLink RX8 124 "BlueCoatsModel" "next" "I", Cond.fieldLink RX8 121 "BlueCoatsModel" "end" "I", Cond.fieldLink RX8 7 "BlueCoatsModel" "tape" "[I", Cond.constant RX8 147 (99999), Cond.methodLink RX8 133 yX8_isSmall, Cond.instanceMethod yX8_isSmall]
def wsX8_line_r2 : List Cond := [Cond.selects RX8 yX8_isSmall yX8_isSmall, Cond.code yX8_isSmall cX8_isSmall 2 (some .boolean), Cond.methodLink RX8 137 yX8_wordAt, Cond.instanceMethod yX8_wordAt, Cond.selects RX8 yX8_wordAt yX8_wordAt, Cond.code yX8_wordAt cX8_wordAt 8 (some .int), Cond.fieldLink RX8 84 "BlueCoatsModel" "words" "[I", Cond.methodLink RX8 144 yX8_isDigit, Cond.instanceMethod yX8_isDigit, Cond.selects RX8 yX8_isDigit yX8_isDigit, Cond.code yX8_isDigit cX8_isDigit 2 (some .boolean), Cond.methodLink RX8 161 yX8_cycleLine, Cond.instanceMethod yX8_cycleLine, Cond.selects RX8 yX8_cycleLine yX8_cycleLine, Cond.code yX8_cycleLine cX8_cycleLine 2 (some .boolean), Cond.fieldLink RX8 158 "BlueCoatsModel" "readMany" "I", Cond.fieldLink RX8 13 "BlueCoatsModel" "cycle" "[I", Cond.methodLink RX8 165 yX8_number, Cond.instanceMethod yX8_number, Cond.selects RX8 yX8_number yX8_number, Cond.code yX8_number cX8_number 3 (some .boolean)]
def wsX8_line : List Cond := .code yX8_line cX8_line 4 (some .boolean) :: ((wsX8_line_r1 ++ wsX8_line_r2) ++ wsX80)
def wsX8_statutes_r1 : List Cond := [Cond.fieldLink RX8 112 "BlueCoatsModel" "thrown" "I", Cond.fieldLink RX8 115 "BlueCoatsModel" "tapeSize" "I", Cond.fieldLink RX8 121 "BlueCoatsModel" "end" "I", Cond.fieldLink RX8 118 "BlueCoatsModel" "fault" "I", Cond.fieldLink RX8 38 "BlueCoatsModel" "faultPlace" "I", Cond.fieldLink RX8 87 "BlueCoatsModel" "told" "[Z", Cond.fieldLink RX8 90 "BlueCoatsModel" "rules" "[I", Cond.fieldLink RX8 168 "BlueCoatsModel" "readHigh" "I", Cond.fieldLink RX8 158 "BlueCoatsModel" "readMany" "I", Cond.fieldLink RX8 13 "BlueCoatsModel" "cycle" "[I", Cond.fieldLink RX8 124 "BlueCoatsModel" "next" "I", Cond.fieldLink RX8 130 "BlueCoatsModel" "kind" "I", Cond.fieldLink RX8 127 "BlueCoatsModel" "place" "I", Cond.fieldLink RX8 16 "BlueCoatsModel" "cycleMany" "I", Cond.fieldLink RX8 174 "BlueCoatsModel" "cycleNext" "I", Cond.fieldLink RX8 20 "BlueCoatsModel" "vote" "I", Cond.fieldLink RX8 23 "BlueCoatsModel" "low" "I", Cond.fieldLink RX8 26 "BlueCoatsModel" "high" "I", Cond.fieldLink RX8 29 "BlueCoatsModel" "wear" "I", Cond.fieldLink RX8 32 "BlueCoatsModel" "spare" "I", Cond.fieldLink RX8 35 "BlueCoatsModel" "places" "I", Cond.methodLink RX8 155 yX8_take, Cond.instanceMethod yX8_take, Cond.selects RX8 yX8_take yX8_take]
def wsX8_statutes_r2 : List Cond := [Cond.initialized RX8, Cond.code yX8_take cX8_take 1 none, Cond.fieldLink RX8 7 "BlueCoatsModel" "tape" "[I", Cond.fieldLink RX8 141 "BlueCoatsModel" "which" "I", Cond.constant RX8 147 (99999), Cond.methodLink RX8 133 yX8_isSmall, Cond.instanceMethod yX8_isSmall, Cond.selects RX8 yX8_isSmall yX8_isSmall, Cond.code yX8_isSmall cX8_isSmall 2 (some .boolean), Cond.methodLink RX8 137 yX8_wordAt, Cond.instanceMethod yX8_wordAt, Cond.selects RX8 yX8_wordAt yX8_wordAt, Cond.code yX8_wordAt cX8_wordAt 8 (some .int), Cond.fieldLink RX8 84 "BlueCoatsModel" "words" "[I", Cond.methodLink RX8 144 yX8_isDigit, Cond.instanceMethod yX8_isDigit, Cond.selects RX8 yX8_isDigit yX8_isDigit, Cond.code yX8_isDigit cX8_isDigit 2 (some .boolean), Cond.methodLink RX8 171 yX8_line, Cond.instanceMethod yX8_line, Cond.selects RX8 yX8_line yX8_line, Cond.code yX8_line cX8_line 4 (some .boolean), Cond.fieldLink RX8 152 "BlueCoatsModel" "read" "I", Cond.methodLink RX8 148 yX8_wrong]
def wsX8_statutes_r3 : List Cond := [Cond.instanceMethod yX8_wrong, Cond.selects RX8 yX8_wrong yX8_wrong, Cond.code yX8_wrong cX8_wrong 3 (some .boolean), Cond.methodLink RX8 161 yX8_cycleLine, Cond.instanceMethod yX8_cycleLine, Cond.selects RX8 yX8_cycleLine yX8_cycleLine, Cond.code yX8_cycleLine cX8_cycleLine 2 (some .boolean), Cond.methodLink RX8 165 yX8_number, Cond.instanceMethod yX8_number, Cond.selects RX8 yX8_number yX8_number, Cond.code yX8_number cX8_number 3 (some .boolean)]
def wsX8_statutes : List Cond := .code yX8_statutes cX8_statutes 4 (some .int) :: ((wsX8_statutes_r1 ++ (wsX8_statutes_r2 ++ wsX8_statutes_r3)) ++ wsX80)
def wsX8_fault : List Cond := .code yX8_fault cX8_fault 2 (some .int) :: ([.fieldLink RX8 112 "BlueCoatsModel" "thrown" "I", .fieldLink RX8 118 "BlueCoatsModel" "fault" "I", .fieldLink RX8 38 "BlueCoatsModel" "faultPlace" "I"] ++ wsX80)
def wsX8_giver : List Cond := .code yX8_giver cX8_giver 1 (some .int) :: ([.fieldLink RX8 112 "BlueCoatsModel" "thrown" "I", .fieldLink RX8 177 "BlueCoatsModel" "givers" "I", .fieldLink RX8 41 "BlueCoatsModel" "gave" "[I", .fieldLink RX8 44 "BlueCoatsModel" "supports" "[I"] ++ wsX80)
def wsX8_gift : List Cond := .code yX8_gift cX8_gift 3 (some .int) :: ([.fieldLink RX8 112 "BlueCoatsModel" "thrown" "I", .fieldLink RX8 177 "BlueCoatsModel" "givers" "I", .constant RX8 147 (99999), .fieldLink RX8 41 "BlueCoatsModel" "gave" "[I"] ++ wsX80)
def wsX8_isChild : List Cond := .code yX8_isChild cX8_isChild 2 (some .boolean) :: ([.fieldLink RX8 180 "BlueCoatsModel" "children" "I"] ++ wsX80)
def wsX8_support : List Cond := .code yX8_support cX8_support 3 (some .boolean) :: ([.fieldLink RX8 112 "BlueCoatsModel" "thrown" "I", .fieldLink RX8 177 "BlueCoatsModel" "givers" "I", .fieldLink RX8 44 "BlueCoatsModel" "supports" "[I", .methodLink RX8 183 yX8_isChild, .instanceMethod yX8_isChild, .selects RX8 yX8_isChild yX8_isChild, .initialized RX8, .code yX8_isChild cX8_isChild 2 (some .boolean), .fieldLink RX8 180 "BlueCoatsModel" "children" "I"] ++ wsX80)
def wsX8_child : List Cond := .code yX8_child cX8_child 5 (some .int) :: ([.fieldLink RX8 112 "BlueCoatsModel" "thrown" "I", .fieldLink RX8 180 "BlueCoatsModel" "children" "I", .fieldLink RX8 47 "BlueCoatsModel" "age" "[I", .fieldLink RX8 50 "BlueCoatsModel" "want" "[I", .fieldLink RX8 53 "BlueCoatsModel" "size" "[I", .fieldLink RX8 56 "BlueCoatsModel" "growth" "[I", .fieldLink RX8 59 "BlueCoatsModel" "state" "[I"] ++ wsX80)
def wsX8_votes : List Cond := .code yX8_votes cX8_votes 4 (some .int) :: ([.fieldLink RX8 177 "BlueCoatsModel" "givers" "I", .fieldLink RX8 44 "BlueCoatsModel" "supports" "[I", .fieldLink RX8 41 "BlueCoatsModel" "gave" "[I", .fieldLink RX8 20 "BlueCoatsModel" "vote" "I"] ++ wsX80)
def wsX8_mayCome : List Cond := .code yX8_mayCome cX8_mayCome 2 (some .boolean) :: ([.fieldLink RX8 59 "BlueCoatsModel" "state" "[I", .fieldLink RX8 47 "BlueCoatsModel" "age" "[I", .fieldLink RX8 23 "BlueCoatsModel" "low" "I", .fieldLink RX8 26 "BlueCoatsModel" "high" "I"] ++ wsX80)
def wsX8_inMany : List Cond := .code yX8_inMany cX8_inMany 3 (some .int) :: ([.fieldLink RX8 180 "BlueCoatsModel" "children" "I", .fieldLink RX8 59 "BlueCoatsModel" "state" "[I"] ++ wsX80)
def wsX8_isAhead : List Cond := .code yX8_isAhead cX8_isAhead 4 (some .boolean) :: ([.fieldLink RX8 50 "BlueCoatsModel" "want" "[I", .methodLink RX8 186 yX8_votes, .instanceMethod yX8_votes, .selects RX8 yX8_votes yX8_votes, .initialized RX8, .code yX8_votes cX8_votes 4 (some .int), .fieldLink RX8 177 "BlueCoatsModel" "givers" "I", .fieldLink RX8 44 "BlueCoatsModel" "supports" "[I", .fieldLink RX8 41 "BlueCoatsModel" "gave" "[I", .fieldLink RX8 20 "BlueCoatsModel" "vote" "I"] ++ wsX80)
def wsX8_comes_r1 : List Cond := [Cond.fieldLink RX8 13 "BlueCoatsModel" "cycle" "[I", Cond.fieldLink RX8 174 "BlueCoatsModel" "cycleNext" "I", Cond.fieldLink RX8 177 "BlueCoatsModel" "givers" "I", Cond.fieldLink RX8 190 "BlueCoatsModel" "giverNext" "I", Cond.fieldLink RX8 44 "BlueCoatsModel" "supports" "[I", Cond.fieldLink RX8 180 "BlueCoatsModel" "children" "I", Cond.methodLink RX8 193 yX8_mayCome, Cond.instanceMethod yX8_mayCome, Cond.selects RX8 yX8_mayCome yX8_mayCome, Cond.initialized RX8, Cond.code yX8_mayCome cX8_mayCome 2 (some .boolean), Cond.fieldLink RX8 59 "BlueCoatsModel" "state" "[I", Cond.fieldLink RX8 47 "BlueCoatsModel" "age" "[I", Cond.fieldLink RX8 23 "BlueCoatsModel" "low" "I", Cond.fieldLink RX8 26 "BlueCoatsModel" "high" "I", Cond.methodLink RX8 186 yX8_votes, Cond.instanceMethod yX8_votes, Cond.selects RX8 yX8_votes yX8_votes, Cond.code yX8_votes cX8_votes 4 (some .int), Cond.fieldLink RX8 41 "BlueCoatsModel" "gave" "[I", Cond.fieldLink RX8 20 "BlueCoatsModel" "vote" "I", Cond.methodLink RX8 196 yX8_isAhead, Cond.instanceMethod yX8_isAhead, Cond.selects RX8 yX8_isAhead yX8_isAhead]
def wsX8_comes_r2 : List Cond := [Cond.code yX8_isAhead cX8_isAhead 4 (some .boolean), Cond.fieldLink RX8 50 "BlueCoatsModel" "want" "[I"]
def wsX8_comes : List Cond := .code yX8_comes cX8_comes 4 (some .int) :: ((wsX8_comes_r1 ++ wsX8_comes_r2) ++ wsX80)
def wsX8_fill_r1 : List Cond := [Cond.fieldLink RX8 112 "BlueCoatsModel" "thrown" "I", Cond.fieldLink RX8 35 "BlueCoatsModel" "places" "I", Cond.fieldLink RX8 59 "BlueCoatsModel" "state" "[I", Cond.fieldLink RX8 174 "BlueCoatsModel" "cycleNext" "I", Cond.fieldLink RX8 16 "BlueCoatsModel" "cycleMany" "I", Cond.methodLink RX8 200 yX8_inMany, Cond.instanceMethod yX8_inMany, Cond.selects RX8 yX8_inMany yX8_inMany, Cond.initialized RX8, Cond.code yX8_inMany cX8_inMany 3 (some .int), Cond.fieldLink RX8 180 "BlueCoatsModel" "children" "I", Cond.methodLink RX8 204 yX8_comes, Cond.instanceMethod yX8_comes, Cond.selects RX8 yX8_comes yX8_comes, Cond.code yX8_comes cX8_comes 4 (some .int), Cond.fieldLink RX8 13 "BlueCoatsModel" "cycle" "[I", Cond.fieldLink RX8 177 "BlueCoatsModel" "givers" "I", Cond.fieldLink RX8 190 "BlueCoatsModel" "giverNext" "I", Cond.fieldLink RX8 44 "BlueCoatsModel" "supports" "[I", Cond.methodLink RX8 193 yX8_mayCome, Cond.instanceMethod yX8_mayCome, Cond.selects RX8 yX8_mayCome yX8_mayCome, Cond.code yX8_mayCome cX8_mayCome 2 (some .boolean), Cond.fieldLink RX8 47 "BlueCoatsModel" "age" "[I"]
def wsX8_fill_r2 : List Cond := [Cond.fieldLink RX8 23 "BlueCoatsModel" "low" "I", Cond.fieldLink RX8 26 "BlueCoatsModel" "high" "I", Cond.methodLink RX8 186 yX8_votes, Cond.instanceMethod yX8_votes, Cond.selects RX8 yX8_votes yX8_votes, Cond.code yX8_votes cX8_votes 4 (some .int), Cond.fieldLink RX8 41 "BlueCoatsModel" "gave" "[I", Cond.fieldLink RX8 20 "BlueCoatsModel" "vote" "I", Cond.methodLink RX8 196 yX8_isAhead, Cond.instanceMethod yX8_isAhead, Cond.selects RX8 yX8_isAhead yX8_isAhead, Cond.code yX8_isAhead cX8_isAhead 4 (some .boolean), Cond.fieldLink RX8 50 "BlueCoatsModel" "want" "[I"]
def wsX8_fill : List Cond := .code yX8_fill cX8_fill 2 (some .int) :: ((wsX8_fill_r1 ++ wsX8_fill_r2) ++ wsX80)
def wsX8_year : List Cond := .code yX8_year cX8_year 4 (some .int) :: ([.fieldLink RX8 112 "BlueCoatsModel" "thrown" "I", .fieldLink RX8 207 "BlueCoatsModel" "years" "I", .fieldLink RX8 180 "BlueCoatsModel" "children" "I", .fieldLink RX8 47 "BlueCoatsModel" "age" "[I", .fieldLink RX8 53 "BlueCoatsModel" "size" "[I", .fieldLink RX8 56 "BlueCoatsModel" "growth" "[I", .fieldLink RX8 59 "BlueCoatsModel" "state" "[I", .fieldLink RX8 26 "BlueCoatsModel" "high" "I", .fieldLink RX8 210 "BlueCoatsModel" "coats" "I", .fieldLink RX8 72 "BlueCoatsModel" "wearer" "[I", .fieldLink RX8 68 "BlueCoatsModel" "gone" "[Z", .fieldLink RX8 65 "BlueCoatsModel" "worn" "[I", .fieldLink RX8 29 "BlueCoatsModel" "wear" "I"] ++ wsX80)
def wsX8_suits : List Cond := .code yX8_suits cX8_suits 3 (some .boolean) :: ([.fieldLink RX8 62 "BlueCoatsModel" "coatSize" "[I", .fieldLink RX8 53 "BlueCoatsModel" "size" "[I", .fieldLink RX8 32 "BlueCoatsModel" "spare" "I"] ++ wsX80)
def wsX8_sets : List Cond := .code yX8_sets cX8_sets 6 none :: ([.fieldLink RX8 213 "BlueCoatsModel" "insideMany" "I", .fieldLink RX8 97 "BlueCoatsModel" "can" "[Z", .fieldLink RX8 210 "BlueCoatsModel" "coats" "I", .fieldLink RX8 68 "BlueCoatsModel" "gone" "[Z", .fieldLink RX8 100 "BlueCoatsModel" "used" "[Z", .fieldLink RX8 93 "BlueCoatsModel" "inside" "[I", .methodLink RX8 216 yX8_suits, .instanceMethod yX8_suits, .selects RX8 yX8_suits yX8_suits, .initialized RX8, .code yX8_suits cX8_suits 3 (some .boolean), .fieldLink RX8 62 "BlueCoatsModel" "coatSize" "[I", .fieldLink RX8 53 "BlueCoatsModel" "size" "[I", .fieldLink RX8 32 "BlueCoatsModel" "spare" "I"] ++ wsX80)
def wsX8_isFirst : List Cond := .code yX8_isFirst cX8_isFirst 6 (some .boolean) :: ([.fieldLink RX8 213 "BlueCoatsModel" "insideMany" "I"] ++ wsX80)
def wsX8_clothOf : List Cond := .code yX8_clothOf cX8_clothOf 4 (some .int) :: ([.fieldLink RX8 213 "BlueCoatsModel" "insideMany" "I", .fieldLink RX8 53 "BlueCoatsModel" "size" "[I", .fieldLink RX8 93 "BlueCoatsModel" "inside" "[I"] ++ wsX80)
def wsX8_feast_r1 : List Cond := [Cond.fieldLink RX8 112 "BlueCoatsModel" "thrown" "I", Cond.fieldLink RX8 213 "BlueCoatsModel" "insideMany" "I", Cond.fieldLink RX8 180 "BlueCoatsModel" "children" "I", Cond.fieldLink RX8 59 "BlueCoatsModel" "state" "[I", Cond.fieldLink RX8 93 "BlueCoatsModel" "inside" "[I", Cond.fieldLink RX8 100 "BlueCoatsModel" "used" "[Z", Cond.fieldLink RX8 97 "BlueCoatsModel" "can" "[Z", Cond.fieldLink RX8 210 "BlueCoatsModel" "coats" "I", Cond.fieldLink RX8 103 "BlueCoatsModel" "given" "[I", Cond.fieldLink RX8 68 "BlueCoatsModel" "gone" "[Z", Cond.fieldLink RX8 72 "BlueCoatsModel" "wearer" "[I", Cond.fieldLink RX8 62 "BlueCoatsModel" "coatSize" "[I", Cond.fieldLink RX8 53 "BlueCoatsModel" "size" "[I", Cond.fieldLink RX8 65 "BlueCoatsModel" "worn" "[I", Cond.methodLink RX8 219 yX8_sets, Cond.instanceMethod yX8_sets, Cond.selects RX8 yX8_sets yX8_sets, Cond.initialized RX8, Cond.code yX8_sets cX8_sets 6 none, Cond.methodLink RX8 216 yX8_suits, Cond.instanceMethod yX8_suits, Cond.selects RX8 yX8_suits yX8_suits, Cond.code yX8_suits cX8_suits 3 (some .boolean), Cond.fieldLink RX8 32 "BlueCoatsModel" "spare" "I"]
def wsX8_feast_r2 : List Cond := [Cond.methodLink RX8 223 yX8_clothOf, Cond.instanceMethod yX8_clothOf, Cond.selects RX8 yX8_clothOf yX8_clothOf, Cond.code yX8_clothOf cX8_clothOf 4 (some .int), Cond.methodLink RX8 226 yX8_isFirst, Cond.instanceMethod yX8_isFirst, Cond.selects RX8 yX8_isFirst yX8_isFirst, Cond.code yX8_isFirst cX8_isFirst 6 (some .boolean)]
def wsX8_feast : List Cond := .code yX8_feast cX8_feast 7 (some .int) :: ((wsX8_feast_r1 ++ wsX8_feast_r2) ++ wsX80)
def wsX8_legacy : List Cond := .code yX8_legacy cX8_legacy 3 (some .int) :: ([.fieldLink RX8 112 "BlueCoatsModel" "thrown" "I", .fieldLink RX8 229 "BlueCoatsModel" "legacies" "I", .fieldLink RX8 75 "BlueCoatsModel" "coins" "[I", .fieldLink RX8 78 "BlueCoatsModel" "ends" "[I"] ++ wsX80)
def wsX8_need : List Cond := .code yX8_need cX8_need 3 (some .boolean) :: ([.fieldLink RX8 112 "BlueCoatsModel" "thrown" "I", .fieldLink RX8 81 "BlueCoatsModel" "needs" "[I"] ++ wsX80)
def wsX8_coinsFor : List Cond := .code yX8_coinsFor cX8_coinsFor 4 (some .int) :: ([.fieldLink RX8 229 "BlueCoatsModel" "legacies" "I", .fieldLink RX8 78 "BlueCoatsModel" "ends" "[I", .fieldLink RX8 75 "BlueCoatsModel" "coins" "[I"] ++ wsX80)
def wsX8_needOf : List Cond := .code yX8_needOf cX8_needOf 4 (some .int) :: ([.fieldLink RX8 81 "BlueCoatsModel" "needs" "[I"] ++ wsX80)
def wsX8_deal : List Cond := .code yX8_deal cX8_deal 7 none :: ([.fieldLink RX8 81 "BlueCoatsModel" "needs" "[I", .fieldLink RX8 106 "BlueCoatsModel" "gets" "[I", .fieldLink RX8 229 "BlueCoatsModel" "legacies" "I", .fieldLink RX8 75 "BlueCoatsModel" "coins" "[I", .fieldLink RX8 78 "BlueCoatsModel" "ends" "[I", .fieldLink RX8 109 "BlueCoatsModel" "pays" "[I", .methodLink RX8 232 yX8_coinsFor, .instanceMethod yX8_coinsFor, .selects RX8 yX8_coinsFor yX8_coinsFor, .initialized RX8, .code yX8_coinsFor cX8_coinsFor 4 (some .int)] ++ wsX80)
def wsX8_shortage : List Cond := .code yX8_shortage cX8_shortage 4 (some .int) :: ([.methodLink RX8 235 yX8_needOf, .instanceMethod yX8_needOf, .selects RX8 yX8_needOf yX8_needOf, .initialized RX8, .code yX8_needOf cX8_needOf 4 (some .int), .fieldLink RX8 81 "BlueCoatsModel" "needs" "[I", .methodLink RX8 232 yX8_coinsFor, .instanceMethod yX8_coinsFor, .selects RX8 yX8_coinsFor yX8_coinsFor, .code yX8_coinsFor cX8_coinsFor 4 (some .int), .fieldLink RX8 229 "BlueCoatsModel" "legacies" "I", .fieldLink RX8 78 "BlueCoatsModel" "ends" "[I", .fieldLink RX8 75 "BlueCoatsModel" "coins" "[I"] ++ wsX80)
def wsX8_owed : List Cond := .code yX8_owed cX8_owed 5 (some .int) :: ([.fieldLink RX8 112 "BlueCoatsModel" "thrown" "I", .fieldLink RX8 106 "BlueCoatsModel" "gets" "[I", .fieldLink RX8 229 "BlueCoatsModel" "legacies" "I", .fieldLink RX8 109 "BlueCoatsModel" "pays" "[I", .methodLink RX8 238 yX8_deal, .instanceMethod yX8_deal, .selects RX8 yX8_deal yX8_deal, .initialized RX8, .code yX8_deal cX8_deal 7 none, .fieldLink RX8 81 "BlueCoatsModel" "needs" "[I", .fieldLink RX8 75 "BlueCoatsModel" "coins" "[I", .fieldLink RX8 78 "BlueCoatsModel" "ends" "[I", .methodLink RX8 232 yX8_coinsFor, .instanceMethod yX8_coinsFor, .selects RX8 yX8_coinsFor yX8_coinsFor, .code yX8_coinsFor cX8_coinsFor 4 (some .int), .methodLink RX8 241 yX8_shortage, .instanceMethod yX8_shortage, .selects RX8 yX8_shortage yX8_shortage, .code yX8_shortage cX8_shortage 4 (some .int), .methodLink RX8 235 yX8_needOf, .instanceMethod yX8_needOf, .selects RX8 yX8_needOf yX8_needOf, .code yX8_needOf cX8_needOf 4 (some .int)] ++ wsX80)
def wsX8_pay : List Cond := .code yX8_pay cX8_pay 3 (some .int) :: ([.fieldLink RX8 112 "BlueCoatsModel" "thrown" "I", .fieldLink RX8 81 "BlueCoatsModel" "needs" "[I", .fieldLink RX8 106 "BlueCoatsModel" "gets" "[I", .fieldLink RX8 229 "BlueCoatsModel" "legacies" "I", .fieldLink RX8 75 "BlueCoatsModel" "coins" "[I", .fieldLink RX8 109 "BlueCoatsModel" "pays" "[I", .methodLink RX8 238 yX8_deal, .instanceMethod yX8_deal, .selects RX8 yX8_deal yX8_deal, .initialized RX8, .code yX8_deal cX8_deal 7 none, .fieldLink RX8 78 "BlueCoatsModel" "ends" "[I", .methodLink RX8 232 yX8_coinsFor, .instanceMethod yX8_coinsFor, .selects RX8 yX8_coinsFor yX8_coinsFor, .code yX8_coinsFor cX8_coinsFor 4 (some .int)] ++ wsX80)
def wsX8_fails : List Cond := .code yX8_fails cX8_fails 2 (some .int) :: ([.fieldLink RX8 112 "BlueCoatsModel" "thrown" "I"] ++ wsX80)
def wsX8_coatOf : List Cond := .code yX8_coatOf cX8_coatOf 3 (some .int) :: ([.fieldLink RX8 210 "BlueCoatsModel" "coats" "I", .fieldLink RX8 72 "BlueCoatsModel" "wearer" "[I"] ++ wsX80)
def wsX8_look_r1 : List Cond := [Cond.fieldLink RX8 112 "BlueCoatsModel" "thrown" "I", Cond.fieldLink RX8 47 "BlueCoatsModel" "age" "[I", Cond.fieldLink RX8 50 "BlueCoatsModel" "want" "[I", Cond.fieldLink RX8 53 "BlueCoatsModel" "size" "[I", Cond.fieldLink RX8 59 "BlueCoatsModel" "state" "[I", Cond.methodLink RX8 183 yX8_isChild, Cond.instanceMethod yX8_isChild, Cond.selects RX8 yX8_isChild yX8_isChild, Cond.initialized RX8, Cond.code yX8_isChild cX8_isChild 2 (some .boolean), Cond.fieldLink RX8 180 "BlueCoatsModel" "children" "I", Cond.methodLink RX8 244 yX8_fails, Cond.instanceMethod yX8_fails, Cond.selects RX8 yX8_fails yX8_fails, Cond.code yX8_fails cX8_fails 2 (some .int), Cond.methodLink RX8 247 yX8_coatOf, Cond.instanceMethod yX8_coatOf, Cond.selects RX8 yX8_coatOf yX8_coatOf, Cond.code yX8_coatOf cX8_coatOf 3 (some .int), Cond.fieldLink RX8 210 "BlueCoatsModel" "coats" "I", Cond.fieldLink RX8 72 "BlueCoatsModel" "wearer" "[I", Cond.methodLink RX8 186 yX8_votes, Cond.instanceMethod yX8_votes, Cond.selects RX8 yX8_votes yX8_votes]
def wsX8_look_r2 : List Cond := [Cond.code yX8_votes cX8_votes 4 (some .int), Cond.fieldLink RX8 177 "BlueCoatsModel" "givers" "I", Cond.fieldLink RX8 44 "BlueCoatsModel" "supports" "[I", Cond.fieldLink RX8 41 "BlueCoatsModel" "gave" "[I", Cond.fieldLink RX8 20 "BlueCoatsModel" "vote" "I"]
def wsX8_look : List Cond := .code yX8_look cX8_look 3 (some .int) :: ((wsX8_look_r1 ++ wsX8_look_r2) ++ wsX80)
def wsX8_coat : List Cond := .code yX8_coat cX8_coat 3 (some .int) :: ([.fieldLink RX8 112 "BlueCoatsModel" "thrown" "I", .fieldLink RX8 210 "BlueCoatsModel" "coats" "I", .fieldLink RX8 62 "BlueCoatsModel" "coatSize" "[I", .fieldLink RX8 65 "BlueCoatsModel" "worn" "[I", .fieldLink RX8 68 "BlueCoatsModel" "gone" "[Z", .fieldLink RX8 72 "BlueCoatsModel" "wearer" "[I"] ++ wsX80)
def wsX8_count : List Cond := .code yX8_count cX8_count 2 (some .int) :: ([.fieldLink RX8 112 "BlueCoatsModel" "thrown" "I", .fieldLink RX8 177 "BlueCoatsModel" "givers" "I", .fieldLink RX8 180 "BlueCoatsModel" "children" "I", .fieldLink RX8 210 "BlueCoatsModel" "coats" "I", .fieldLink RX8 229 "BlueCoatsModel" "legacies" "I", .fieldLink RX8 190 "BlueCoatsModel" "giverNext" "I", .fieldLink RX8 13 "BlueCoatsModel" "cycle" "[I", .fieldLink RX8 174 "BlueCoatsModel" "cycleNext" "I", .fieldLink RX8 207 "BlueCoatsModel" "years" "I", .methodLink RX8 200 yX8_inMany, .instanceMethod yX8_inMany, .selects RX8 yX8_inMany yX8_inMany, .initialized RX8, .code yX8_inMany cX8_inMany 3 (some .int), .fieldLink RX8 59 "BlueCoatsModel" "state" "[I"] ++ wsX80)
def wsJ9_max_7cf53 : List Cond := .code yJ9_max_7cf53 cJ9_max_7cf53 2 (some .int) :: ([])
def wsJ9_min_7cf53 : List Cond := .code yJ9_min_7cf53 cJ9_min_7cf53 2 (some .int) :: ([])
def wsL_look_r1 : List Cond := [Cond.classLink RL 13 "java/lang/IndexOutOfBoundsException", Cond.classLink RL 15 "java/util/NoSuchElementException", Cond.methodLink RL 7 yX7_look, Cond.instanceMethod yX7_look, Cond.selects RX7 yX7_look yX7_look, Cond.initialized RX7, Cond.code yX7_look cX7_look 3 (some .int), Cond.classLink RX7 235 "java/lang/IndexOutOfBoundsException", Cond.initialized "java/lang/IndexOutOfBoundsException", Cond.classLink RX7 242 "java/util/NoSuchElementException", Cond.initialized "java/util/NoSuchElementException", Cond.fieldLink RX7 33 "BlueCoats" "children" "LBlueCoats$Children;", Cond.fieldLink RX7 155 "BlueCoats$Children" "age" "[I", Cond.fieldLink RX7 152 "BlueCoats$Children" "need" "[I", Cond.fieldLink RX7 204 "BlueCoats$Children" "size" "[I", Cond.fieldLink RX7 118 "BlueCoats$Children" "state" "[I", Cond.fieldLink RX7 167 "BlueCoats$Children" "coat" "[I", Cond.fieldLink RX7 26 "BlueCoats" "givers" "LBlueCoats$Givers;", Cond.fieldLink RX7 19 "BlueCoats" "law" "LBlueCoats$Statutes;", Cond.fieldLink RX7 146 "BlueCoats$Statutes" "vote" "I", Cond.methodLink RX7 98 yX1_has, Cond.instanceMethod yX1_has, Cond.selects RX1 yX1_has yX1_has, Cond.initialized RX1]
def wsL_look_r2 : List Cond := [Cond.code yX1_has cX1_has 2 (some .boolean), Cond.fieldLink RX1 30 "BlueCoats$Children" "number" "I", Cond.methodLink RX7 149 yX3_votesFor, Cond.instanceMethod yX3_votesFor, Cond.selects RX3 yX3_votesFor yX3_votesFor, Cond.initialized RX3, Cond.code yX3_votesFor cX3_votesFor 5 (some .int), Cond.fieldLink RX3 18 "BlueCoats$Givers" "number" "I", Cond.fieldLink RX3 15 "BlueCoats$Givers" "supported" "[I", Cond.fieldLink RX3 11 "BlueCoats$Givers" "gave" "[I"]
def wsL_look : List Cond := .codeWith yL_look cL_look 5 (some .int) [(0, 10, 13, 13), (0, 10, 17, 15)] :: ((wsL_look_r1 ++ wsL_look_r2) ++ wsX70 ++ wsX10 ++ wsX50 ++ wsX30 ++ (vx_atS RX7 239 "java/lang/IndexOutOfBoundsException" ["java/lang/RuntimeException", "java/lang/Exception"]).filter goodWord ++ (vx_atS RX7 246 "java/util/NoSuchElementException" ["java/lang/RuntimeException", "java/lang/Exception"]).filter goodWord)
def wsL_law0_r1 : List Cond := [Cond.classLink RL 8 RX7, Cond.instantiable RX7 8, Cond.initialized RX7, Cond.classLink RL 18 RX8, Cond.instantiable RX8 52, Cond.initialized RX8, Cond.arrayClass .long, Cond.methodLink RL 17 yX7_init, Cond.instanceMethod yX7_init, Cond.code yX7_init cX7_init 1 none, Cond.methodLink RX7 1 objectInit, Cond.instanceMethod objectInit, Cond.code objectInit ⟨#[0xb1]⟩ 1 none, Cond.classLink RX7 7 RX4, Cond.instantiable RX4 11, Cond.initialized RX4, Cond.fieldLink RX7 10 "BlueCoats" "reader" "LBlueCoats$Reader;", Cond.classLink RX7 16 RX5, Cond.instantiable RX5 9, Cond.initialized RX5, Cond.fieldLink RX7 19 "BlueCoats" "law" "LBlueCoats$Statutes;", Cond.classLink RX7 23 RX3, Cond.instantiable RX3 4, Cond.initialized RX3]
def wsL_law0_r2 : List Cond := [Cond.fieldLink RX7 26 "BlueCoats" "givers" "LBlueCoats$Givers;", Cond.classLink RX7 30 RX1, Cond.instantiable RX1 7, Cond.initialized RX1, Cond.fieldLink RX7 33 "BlueCoats" "children" "LBlueCoats$Children;", Cond.classLink RX7 37 RX6, Cond.instantiable RX6 5, Cond.initialized RX6, Cond.fieldLink RX7 40 "BlueCoats" "wardrobe" "LBlueCoats$Wardrobe;", Cond.classLink RX7 44 RX2, Cond.instantiable RX2 6, Cond.initialized RX2, Cond.fieldLink RX7 47 "BlueCoats" "dressing" "LBlueCoats$Dressing;", Cond.classLink RX7 51 RX0, Cond.instantiable RX0 9, Cond.initialized RX0, Cond.fieldLink RX7 54 "BlueCoats" "chest" "LBlueCoats$Chest;", Cond.fieldLink RX7 58 "BlueCoats" "years" "I", Cond.instanceMethod yX4_init, Cond.code yX4_init cX4_init 1 none, Cond.methodLink RX4 3 objectInit, Cond.classLink RX4 9 RX5, Cond.fieldLink RX4 12 "BlueCoats$Reader" "draft" "LBlueCoats$Statutes;", Cond.fieldLink RX4 18 "BlueCoats$Reader" "fault" "I"]
def wsL_law0_r3 : List Cond := [Cond.fieldLink RX4 22 "BlueCoats$Reader" "faultPlace" "I", Cond.arrayClass .byte, Cond.fieldLink RX4 25 "BlueCoats$Reader" "tape" "[B", Cond.methodLink RX4 11 yX5_init, Cond.instanceMethod yX5_init, Cond.code yX5_init cX5_init 1 none, Cond.methodLink RX5 3 objectInit, Cond.arrayClass .int, Cond.fieldLink RX5 11 "BlueCoats$Statutes" "cycle" "[I", Cond.methodLink RX5 15 yX5_sayNothing, Cond.instanceMethod yX5_sayNothing, Cond.selects RX5 yX5_sayNothing yX5_sayNothing, Cond.code yX5_sayNothing cX5_sayNothing 1 none, Cond.fieldLink RX5 18 "BlueCoats$Statutes" "ways" "I", Cond.fieldLink RX5 22 "BlueCoats$Statutes" "next" "I", Cond.fieldLink RX5 25 "BlueCoats$Statutes" "vote" "I", Cond.fieldLink RX5 28 "BlueCoats$Statutes" "ageFrom" "I", Cond.fieldLink RX5 31 "BlueCoats$Statutes" "ageTo" "I", Cond.fieldLink RX5 34 "BlueCoats$Statutes" "wear" "I", Cond.fieldLink RX5 37 "BlueCoats$Statutes" "spare" "I", Cond.fieldLink RX5 40 "BlueCoats$Statutes" "places" "I", Cond.methodLink RX7 18 yX5_init, Cond.instanceMethod yX3_init, Cond.code yX3_init cX3_init 1 none]
def wsL_law0_r4 : List Cond := [Cond.methodLink RX3 3 objectInit, Cond.fieldLink RX3 11 "BlueCoats$Givers" "gave" "[I", Cond.fieldLink RX3 15 "BlueCoats$Givers" "supported" "[I", Cond.instanceMethod yX1_init, Cond.code yX1_init cX1_init 1 none, Cond.methodLink RX1 3 objectInit, Cond.fieldLink RX1 11 "BlueCoats$Children" "age" "[I", Cond.fieldLink RX1 15 "BlueCoats$Children" "need" "[I", Cond.fieldLink RX1 18 "BlueCoats$Children" "size" "[I", Cond.fieldLink RX1 21 "BlueCoats$Children" "growth" "[I", Cond.fieldLink RX1 24 "BlueCoats$Children" "state" "[I", Cond.fieldLink RX1 27 "BlueCoats$Children" "coat" "[I", Cond.instanceMethod yX6_init, Cond.code yX6_init cX6_init 1 none, Cond.methodLink RX6 3 objectInit, Cond.fieldLink RX6 11 "BlueCoats$Wardrobe" "size" "[I", Cond.fieldLink RX6 15 "BlueCoats$Wardrobe" "worn" "[I", Cond.arrayClass .boolean, Cond.fieldLink RX6 18 "BlueCoats$Wardrobe" "gone" "[Z", Cond.fieldLink RX6 22 "BlueCoats$Wardrobe" "wearer" "[I", Cond.instanceMethod yX2_init, Cond.code yX2_init cX2_init 1 none, Cond.methodLink RX2 3 objectInit, Cond.fieldLink RX2 11 "BlueCoats$Dressing" "guest" "[I"]
def wsL_law0_r5 : List Cond := [Cond.fieldLink RX2 15 "BlueCoats$Dressing" "given" "[I", Cond.fieldLink RX2 18 "BlueCoats$Dressing" "size" "[I", Cond.fieldLink RX2 21 "BlueCoats$Dressing" "fitting" "[J", Cond.instanceMethod yX0_init, Cond.code yX0_init cX0_init 1 none, Cond.methodLink RX0 5 objectInit, Cond.fieldLink RX0 11 "BlueCoats$Chest" "need" "[I", Cond.fieldLink RX0 15 "BlueCoats$Chest" "toEnd" "[I", Cond.fieldLink RX0 18 "BlueCoats$Chest" "fromLegacy" "[I", Cond.fieldLink RX0 21 "BlueCoats$Chest" "coins" "[I", Cond.fieldLink RX0 24 "BlueCoats$Chest" "ends" "[I", Cond.fieldLink RX0 27 "BlueCoats$Chest" "lack" "[I", Cond.methodLink RL 20 yX8_init, Cond.instanceMethod yX8_init, Cond.code yX8_init cX8_init 1 none, Cond.methodLink RX8 1 objectInit, Cond.fieldLink RX8 7 "BlueCoatsModel" "tape" "[I", Cond.fieldLink RX8 13 "BlueCoatsModel" "cycle" "[I", Cond.fieldLink RX8 16 "BlueCoatsModel" "cycleMany" "I", Cond.fieldLink RX8 20 "BlueCoatsModel" "vote" "I", Cond.fieldLink RX8 23 "BlueCoatsModel" "low" "I", Cond.fieldLink RX8 26 "BlueCoatsModel" "high" "I", Cond.fieldLink RX8 29 "BlueCoatsModel" "wear" "I", Cond.fieldLink RX8 32 "BlueCoatsModel" "spare" "I"]
def wsL_law0_r6 : List Cond := [Cond.fieldLink RX8 35 "BlueCoatsModel" "places" "I", Cond.fieldLink RX8 38 "BlueCoatsModel" "faultPlace" "I", Cond.fieldLink RX8 41 "BlueCoatsModel" "gave" "[I", Cond.fieldLink RX8 44 "BlueCoatsModel" "supports" "[I", Cond.fieldLink RX8 47 "BlueCoatsModel" "age" "[I", Cond.fieldLink RX8 50 "BlueCoatsModel" "want" "[I", Cond.fieldLink RX8 53 "BlueCoatsModel" "size" "[I", Cond.fieldLink RX8 56 "BlueCoatsModel" "growth" "[I", Cond.fieldLink RX8 59 "BlueCoatsModel" "state" "[I", Cond.fieldLink RX8 62 "BlueCoatsModel" "coatSize" "[I", Cond.fieldLink RX8 65 "BlueCoatsModel" "worn" "[I", Cond.fieldLink RX8 68 "BlueCoatsModel" "gone" "[Z", Cond.fieldLink RX8 72 "BlueCoatsModel" "wearer" "[I", Cond.fieldLink RX8 75 "BlueCoatsModel" "coins" "[I", Cond.fieldLink RX8 78 "BlueCoatsModel" "ends" "[I", Cond.fieldLink RX8 81 "BlueCoatsModel" "needs" "[I", Cond.fieldLink RX8 84 "BlueCoatsModel" "words" "[I", Cond.fieldLink RX8 87 "BlueCoatsModel" "told" "[Z", Cond.fieldLink RX8 90 "BlueCoatsModel" "rules" "[I", Cond.fieldLink RX8 93 "BlueCoatsModel" "inside" "[I", Cond.constant RX8 96 (65536), Cond.fieldLink RX8 97 "BlueCoatsModel" "can" "[Z", Cond.fieldLink RX8 100 "BlueCoatsModel" "used" "[Z", Cond.fieldLink RX8 103 "BlueCoatsModel" "given" "[I"]
def wsL_law0_r7 : List Cond := [Cond.fieldLink RX8 106 "BlueCoatsModel" "gets" "[I", Cond.fieldLink RX8 109 "BlueCoatsModel" "pays" "[I", Cond.methodLink RL 21 yX7_feed, Cond.instanceMethod yX7_feed, Cond.selects RX7 yX7_feed yX7_feed, Cond.code yX7_feed cX7_feed 6 (some .int), Cond.fieldLink RX7 62 "BlueCoats$Reader" "taped" "I", Cond.methodLink RX7 65 yX4_append, Cond.instanceMethod yX4_append, Cond.selects RX4 yX4_append yX4_append, Cond.code yX4_append cX4_append 3 none, Cond.fieldLink RX4 29 "BlueCoats$Reader" "taped" "I", Cond.methodLink RL 25 yX8_feed, Cond.instanceMethod yX8_feed, Cond.selects RX8 yX8_feed yX8_feed, Cond.code yX8_feed cX8_feed 8 (some .int), Cond.fieldLink RX8 112 "BlueCoatsModel" "thrown" "I", Cond.fieldLink RX8 115 "BlueCoatsModel" "tapeSize" "I", Cond.methodLink RL 26 yX7_statutes, Cond.instanceMethod yX7_statutes, Cond.selects RX7 yX7_statutes yX7_statutes, Cond.code yX7_statutes cX7_statutes 3 (some .int), Cond.fieldLink RX7 73 "BlueCoats$Reader" "draft" "LBlueCoats$Statutes;", Cond.methodLink RX7 69 yX4_read]
def wsL_law0_r8 : List Cond := [Cond.instanceMethod yX4_read, Cond.selects RX4 yX4_read yX4_read, Cond.code yX4_read cX4_read 3 (some .int), Cond.methodLink RX4 32 Lib.Math.min.name, Cond.static Lib.Math.min.name, Cond.initialized "java/lang/Math", Cond.code Lib.Math.min.name Lib.Math.min.code 2 (some .int), Cond.fieldLink RX4 38 "BlueCoats$Reader" "length" "I", Cond.fieldLink RX4 41 "BlueCoats$Reader" "end" "I", Cond.fieldLink RX4 44 "BlueCoats$Reader" "told" "I", Cond.fieldLink RX4 53 "BlueCoats$Reader" "kind" "I", Cond.methodLink RX4 47 yX5_sayNothing, Cond.methodLink RX4 50 yX4_advance, Cond.instanceMethod yX4_advance, Cond.selects RX4 yX4_advance yX4_advance, Cond.code yX4_advance cX4_advance 2 none, Cond.fieldLink RX4 67 "BlueCoats$Reader" "start" "I", Cond.methodLink RX4 135 yX4_signAt, Cond.instanceMethod yX4_signAt, Cond.selects RX4 yX4_signAt yX4_signAt, Cond.code yX4_signAt cX4_signAt 2 (some .int), Cond.methodLink RX4 143 yX4_isBlank, Cond.static yX4_isBlank, Cond.code yX4_isBlank cX4_isBlank 1 (some .boolean)]
def wsL_law0_r9 : List Cond := [Cond.methodLink RX4 147 yX4_isLetter, Cond.static yX4_isLetter, Cond.code yX4_isLetter cX4_isLetter 1 (some .boolean), Cond.methodLink RX4 150 yX4_isDigit, Cond.static yX4_isDigit, Cond.code yX4_isDigit cX4_isDigit 1 (some .boolean), Cond.methodLink RX4 153 yX4_scanDigits, Cond.instanceMethod yX4_scanDigits, Cond.selects RX4 yX4_scanDigits yX4_scanDigits, Cond.code yX4_scanDigits cX4_scanDigits 1 none, Cond.fieldLink RX4 113 "BlueCoats$Reader" "value" "I", Cond.constant RX4 156 (100000), Cond.methodLink RX4 56 yX4_begunLine, Cond.instanceMethod yX4_begunLine, Cond.selects RX4 yX4_begunLine yX4_begunLine, Cond.code yX4_begunLine cX4_begunLine 2 (some .int), Cond.methodLink RX4 70 yX4_lineNamed, Cond.instanceMethod yX4_lineNamed, Cond.selects RX4 yX4_lineNamed yX4_lineNamed, Cond.code yX4_lineNamed cX4_lineNamed 1 (some .int), Cond.methodLink RX4 117 yX4_isWord, Cond.instanceMethod yX4_isWord, Cond.selects RX4 yX4_isWord yX4_isWord, Cond.code yX4_isWord cX4_isWord 3 (some .boolean)]
def wsL_law0_r10 : List Cond := [Cond.methodLink RX4 131 yJ0_length_8abf5, Cond.instanceMethod yJ0_length_8abf5, Cond.selects RJ0 yJ0_length_8abf5 yJ0_length_8abf5, Cond.initialized RJ0, Cond.code yJ0_length_8abf5 cJ0_length_8abf5 1 (some .int), Cond.fieldLink RJ0 9 "java/lang/String" "value" "[B", Cond.methodLink RJ0 335 yJ0_coder_7d493, Cond.instanceMethod yJ0_coder_7d493, Cond.selects RJ0 yJ0_coder_7d493 yJ0_coder_7d493, Cond.code yJ0_coder_7d493 cJ0_coder_7d493 1 (some .byte), Cond.fieldLink RJ0 38 "java/lang/String" "COMPACT_STRINGS" "Z", Cond.fieldLink RJ0 15 "java/lang/String" "coder" "B", Cond.methodLink RX4 139 yJ0_charAt_5068e, Cond.instanceMethod yJ0_charAt_5068e, Cond.selects RJ0 yJ0_charAt_5068e yJ0_charAt_5068e, Cond.code yJ0_charAt_5068e cJ0_charAt_5068e 2 (some .char), Cond.methodLink RJ0 492 yJ0_isLatin1_aae02, Cond.instanceMethod yJ0_isLatin1_aae02, Cond.selects RJ0 yJ0_isLatin1_aae02 yJ0_isLatin1_aae02, Cond.code yJ0_isLatin1_aae02 cJ0_isLatin1_aae02 1 (some .boolean), Cond.methodLink RJ0 495 yJ1_charAt_3b067, Cond.static yJ1_charAt_3b067, Cond.initialized RJ1, Cond.code yJ1_charAt_3b067 cJ1_charAt_3b067 2 (some .char)]
def wsL_law0_r11 : List Cond := [Cond.methodLink RJ1 9 yJ0_checkIndex_df160, Cond.static yJ0_checkIndex_df160, Cond.code yJ0_checkIndex_df160 cJ0_checkIndex_df160 2 none, Cond.fieldLink RJ0 1053 "jdk/internal/util/Preconditions" "SIOOBE_FORMATTER" "Ljava/util/function/BiFunction;", Cond.methodLink RJ0 1059 yJ3_checkIndex_8e157, Cond.static yJ3_checkIndex_8e157, Cond.initialized RJ3, Cond.code yJ3_checkIndex_8e157 cJ3_checkIndex_8e157 3 (some .int), Cond.methodLink RJ0 498 yJ2_charAt_3b067, Cond.static yJ2_charAt_3b067, Cond.initialized RJ2, Cond.code yJ2_charAt_3b067 cJ2_charAt_3b067 2 (some .char), Cond.methodLink RJ2 67 yJ2_checkIndex_2214a, Cond.static yJ2_checkIndex_2214a, Cond.code yJ2_checkIndex_2214a cJ2_checkIndex_2214a 2 none, Cond.methodLink RJ2 48 yJ2_length_9d52b, Cond.static yJ2_length_9d52b, Cond.code yJ2_length_9d52b cJ2_length_9d52b 1 (some .int), Cond.methodLink RJ2 414 yJ0_checkIndex_df160, Cond.methodLink RJ2 71 yJ2_getChar_3b067, Cond.static yJ2_getChar_3b067, Cond.code yJ2_getChar_3b067 cJ2_getChar_3b067 2 (some .char), Cond.fieldLink RJ2 44 "java/lang/StringUTF16" "$assertionsDisabled" "Z", Cond.fieldLink RJ2 59 "java/lang/StringUTF16" "HI_BYTE_SHIFT" "I"]
def wsL_law0_r12 : List Cond := [Cond.fieldLink RJ2 63 "java/lang/StringUTF16" "LO_BYTE_SHIFT" "I", Cond.methodLink RX4 73 yX4_blame, Cond.instanceMethod yX4_blame, Cond.selects RX4 yX4_blame yX4_blame, Cond.code yX4_blame cX4_blame 2 none, Cond.methodLink RX4 60 yX4_readRest, Cond.instanceMethod yX4_readRest, Cond.selects RX4 yX4_readRest yX4_readRest, Cond.code yX4_readRest cX4_readRest 2 none, Cond.fieldLink RX4 82 "BlueCoats$Statutes" "vote" "I", Cond.fieldLink RX4 88 "BlueCoats$Statutes" "wear" "I", Cond.fieldLink RX4 91 "BlueCoats$Statutes" "spare" "I", Cond.fieldLink RX4 94 "BlueCoats$Statutes" "places" "I", Cond.methodLink RX4 76 yX4_readWays, Cond.instanceMethod yX4_readWays, Cond.selects RX4 yX4_readWays yX4_readWays, Cond.code yX4_readWays cX4_readWays 2 none, Cond.fieldLink RX4 100 "BlueCoats$Statutes" "ways" "I", Cond.fieldLink RX4 103 "BlueCoats$Statutes" "cycle" "[I", Cond.methodLink RX4 97 yX4_wayNamed, Cond.instanceMethod yX4_wayNamed, Cond.selects RX4 yX4_wayNamed yX4_wayNamed, Cond.code yX4_wayNamed cX4_wayNamed 1 (some .int), Cond.methodLink RX4 79 yX4_readNumber]
def wsL_law0_r13 : List Cond := [Cond.instanceMethod yX4_readNumber, Cond.selects RX4 yX4_readNumber yX4_readNumber, Cond.code yX4_readNumber cX4_readNumber 4 (some .int), Cond.methodLink RX4 85 yX4_readAges, Cond.instanceMethod yX4_readAges, Cond.selects RX4 yX4_readAges yX4_readAges, Cond.code yX4_readAges cX4_readAges 1 none, Cond.fieldLink RX4 107 "BlueCoats$Statutes" "ageFrom" "I", Cond.fieldLink RX4 110 "BlueCoats$Statutes" "ageTo" "I", Cond.methodLink RX4 64 yX4_endLine, Cond.instanceMethod yX4_endLine, Cond.selects RX4 yX4_endLine yX4_endLine, Cond.code yX4_endLine cX4_endLine 1 none, Cond.methodLink RX7 76 yX5_takeOver, Cond.instanceMethod yX5_takeOver, Cond.selects RX5 yX5_takeOver yX5_takeOver, Cond.code yX5_takeOver cX5_takeOver 2 none, Cond.methodLink RX5 43 arraycopyName, Cond.native arraycopyName, Cond.static arraycopyName, Cond.initialized "java/lang/System", Cond.methodLink RL 30 yX8_statutes, Cond.instanceMethod yX8_statutes, Cond.selects RX8 yX8_statutes yX8_statutes]
def wsL_law0_r14 : List Cond := [Cond.code yX8_statutes cX8_statutes 4 (some .int), Cond.fieldLink RX8 121 "BlueCoatsModel" "end" "I", Cond.fieldLink RX8 118 "BlueCoatsModel" "fault" "I", Cond.fieldLink RX8 168 "BlueCoatsModel" "readHigh" "I", Cond.fieldLink RX8 158 "BlueCoatsModel" "readMany" "I", Cond.fieldLink RX8 124 "BlueCoatsModel" "next" "I", Cond.fieldLink RX8 130 "BlueCoatsModel" "kind" "I", Cond.fieldLink RX8 127 "BlueCoatsModel" "place" "I", Cond.fieldLink RX8 174 "BlueCoatsModel" "cycleNext" "I", Cond.methodLink RX8 155 yX8_take, Cond.instanceMethod yX8_take, Cond.selects RX8 yX8_take yX8_take, Cond.code yX8_take cX8_take 1 none, Cond.fieldLink RX8 141 "BlueCoatsModel" "which" "I", Cond.constant RX8 147 (99999), Cond.methodLink RX8 133 yX8_isSmall, Cond.instanceMethod yX8_isSmall, Cond.selects RX8 yX8_isSmall yX8_isSmall, Cond.code yX8_isSmall cX8_isSmall 2 (some .boolean), Cond.methodLink RX8 137 yX8_wordAt, Cond.instanceMethod yX8_wordAt, Cond.selects RX8 yX8_wordAt yX8_wordAt, Cond.code yX8_wordAt cX8_wordAt 8 (some .int), Cond.methodLink RX8 144 yX8_isDigit]
def wsL_law0_r15 : List Cond := [Cond.instanceMethod yX8_isDigit, Cond.selects RX8 yX8_isDigit yX8_isDigit, Cond.code yX8_isDigit cX8_isDigit 2 (some .boolean), Cond.methodLink RX8 171 yX8_line, Cond.instanceMethod yX8_line, Cond.selects RX8 yX8_line yX8_line, Cond.code yX8_line cX8_line 4 (some .boolean), Cond.fieldLink RX8 152 "BlueCoatsModel" "read" "I", Cond.methodLink RX8 148 yX8_wrong, Cond.instanceMethod yX8_wrong, Cond.selects RX8 yX8_wrong yX8_wrong, Cond.code yX8_wrong cX8_wrong 3 (some .boolean), Cond.methodLink RX8 161 yX8_cycleLine, Cond.instanceMethod yX8_cycleLine, Cond.selects RX8 yX8_cycleLine yX8_cycleLine, Cond.code yX8_cycleLine cX8_cycleLine 2 (some .boolean), Cond.methodLink RX8 165 yX8_number, Cond.instanceMethod yX8_number, Cond.selects RX8 yX8_number yX8_number, Cond.code yX8_number cX8_number 3 (some .boolean), Cond.methodLink RL 31 yX7_fault, Cond.instanceMethod yX7_fault, Cond.selects RX7 yX7_fault yX7_fault, Cond.code yX7_fault cX7_fault 2 (some .int)]
def wsL_law0_r16 : List Cond := [Cond.fieldLink RX7 80 "BlueCoats$Reader" "fault" "I", Cond.fieldLink RX7 83 "BlueCoats$Reader" "faultPlace" "I", Cond.methodLink RL 34 yX8_fault, Cond.instanceMethod yX8_fault, Cond.selects RX8 yX8_fault yX8_fault, Cond.code yX8_fault cX8_fault 2 (some .int), Cond.methodLink RL 35 yX7_giver, Cond.instanceMethod yX7_giver, Cond.selects RX7 yX7_giver yX7_giver, Cond.code yX7_giver cX7_giver 1 (some .int), Cond.methodLink RX7 86 yX3_add, Cond.instanceMethod yX3_add, Cond.selects RX3 yX3_add yX3_add, Cond.code yX3_add cX3_add 1 (some .int), Cond.fieldLink RX3 18 "BlueCoats$Givers" "number" "I", Cond.methodLink RL 39 yX8_giver, Cond.instanceMethod yX8_giver, Cond.selects RX8 yX8_giver yX8_giver, Cond.code yX8_giver cX8_giver 1 (some .int), Cond.fieldLink RX8 177 "BlueCoatsModel" "givers" "I", Cond.methodLink RL 40 yX7_gift, Cond.instanceMethod yX7_gift, Cond.selects RX7 yX7_gift yX7_gift, Cond.code yX7_gift cX7_gift 3 (some .int)]
def wsL_law0_r17 : List Cond := [Cond.methodLink RX7 90 yX3_has, Cond.instanceMethod yX3_has, Cond.selects RX3 yX3_has yX3_has, Cond.code yX3_has cX3_has 2 (some .boolean), Cond.methodLink RX7 94 yX3_take, Cond.instanceMethod yX3_take, Cond.selects RX3 yX3_take yX3_take, Cond.code yX3_take cX3_take 3 (some .int), Cond.constant RX3 26 (99999), Cond.methodLink RX3 22 yX3_has, Cond.methodLink RL 43 yX8_gift, Cond.instanceMethod yX8_gift, Cond.selects RX8 yX8_gift yX8_gift, Cond.code yX8_gift cX8_gift 3 (some .int), Cond.methodLink RL 44 yX7_support, Cond.instanceMethod yX7_support, Cond.selects RX7 yX7_support yX7_support, Cond.code yX7_support cX7_support 3 (some .boolean), Cond.fieldLink RX7 99 "BlueCoats$Givers" "supported" "[I", Cond.methodLink RX7 98 yX1_has, Cond.instanceMethod yX1_has, Cond.selects RX1 yX1_has yX1_has, Cond.code yX1_has cX1_has 2 (some .boolean), Cond.fieldLink RX1 30 "BlueCoats$Children" "number" "I"]
def wsL_law0_r18 : List Cond := [Cond.methodLink RL 48 yX8_support, Cond.instanceMethod yX8_support, Cond.selects RX8 yX8_support yX8_support, Cond.code yX8_support cX8_support 3 (some .boolean), Cond.methodLink RX8 183 yX8_isChild, Cond.instanceMethod yX8_isChild, Cond.selects RX8 yX8_isChild yX8_isChild, Cond.code yX8_isChild cX8_isChild 2 (some .boolean), Cond.fieldLink RX8 180 "BlueCoatsModel" "children" "I", Cond.methodLink RL 49 yX7_child, Cond.instanceMethod yX7_child, Cond.selects RX7 yX7_child yX7_child, Cond.code yX7_child cX7_child 5 (some .int), Cond.methodLink RX7 103 yX1_add, Cond.instanceMethod yX1_add, Cond.selects RX1 yX1_add yX1_add, Cond.code yX1_add cX1_add 5 (some .int), Cond.methodLink RX1 34 yX1_canBe, Cond.static yX1_canBe, Cond.code yX1_canBe cX1_canBe 4 (some .boolean), Cond.methodLink RL 53 yX8_child, Cond.instanceMethod yX8_child, Cond.selects RX8 yX8_child yX8_child, Cond.code yX8_child cX8_child 5 (some .int)]
def wsL_law0_r19 : List Cond := [Cond.methodLink RL 54 yX7_fill, Cond.instanceMethod yX7_fill, Cond.selects RX7 yX7_fill yX7_fill, Cond.code yX7_fill cX7_fill 2 (some .int), Cond.fieldLink RX7 109 "BlueCoats$Statutes" "places" "I", Cond.fieldLink RX7 118 "BlueCoats$Children" "state" "[I", Cond.methodLink RX7 106 yX1_in, Cond.instanceMethod yX1_in, Cond.selects RX1 yX1_in yX1_in, Cond.code yX1_in cX1_in 3 (some .int), Cond.methodLink RX7 112 yX5_wayNext, Cond.instanceMethod yX5_wayNext, Cond.selects RX5 yX5_wayNext yX5_wayNext, Cond.code yX5_wayNext cX5_wayNext 1 (some .int), Cond.methodLink RX7 115 yX7_chosenBy, Cond.instanceMethod yX7_chosenBy, Cond.selects RX7 yX7_chosenBy yX7_chosenBy, Cond.code yX7_chosenBy cX7_chosenBy 2 (some .int), Cond.methodLink RX7 124 yX7_chosenByTurn, Cond.instanceMethod yX7_chosenByTurn, Cond.selects RX7 yX7_chosenByTurn yX7_chosenByTurn, Cond.code yX7_chosenByTurn cX7_chosenByTurn 5 (some .int), Cond.fieldLink RX7 133 "BlueCoats$Givers" "next" "I", Cond.fieldLink RX7 136 "BlueCoats$Givers" "number" "I"]
def wsL_law0_r20 : List Cond := [Cond.methodLink RX7 139 yX3_childOf, Cond.instanceMethod yX3_childOf, Cond.selects RX3 yX3_childOf yX3_childOf, Cond.code yX3_childOf cX3_childOf 2 (some .int), Cond.methodLink RX7 142 yX7_mayCome, Cond.instanceMethod yX7_mayCome, Cond.selects RX7 yX7_mayCome yX7_mayCome, Cond.code yX7_mayCome cX7_mayCome 2 (some .boolean), Cond.fieldLink RX7 155 "BlueCoats$Children" "age" "[I", Cond.fieldLink RX7 158 "BlueCoats$Statutes" "ageFrom" "I", Cond.fieldLink RX7 161 "BlueCoats$Statutes" "ageTo" "I", Cond.methodLink RX7 127 yX7_chosenByVote, Cond.instanceMethod yX7_chosenByVote, Cond.selects RX7 yX7_chosenByVote yX7_chosenByVote, Cond.code yX7_chosenByVote cX7_chosenByVote 6 (some .int), Cond.fieldLink RX7 145 "BlueCoats$Children" "number" "I", Cond.fieldLink RX7 146 "BlueCoats$Statutes" "vote" "I", Cond.fieldLink RX7 152 "BlueCoats$Children" "need" "[I", Cond.methodLink RX7 149 yX3_votesFor, Cond.instanceMethod yX3_votesFor, Cond.selects RX3 yX3_votesFor yX3_votesFor, Cond.code yX3_votesFor cX3_votesFor 5 (some .int), Cond.methodLink RX7 130 yX7_chosenByNeed, Cond.instanceMethod yX7_chosenByNeed]
def wsL_law0_r21 : List Cond := [Cond.selects RX7 yX7_chosenByNeed yX7_chosenByNeed, Cond.code yX7_chosenByNeed cX7_chosenByNeed 3 (some .int), Cond.methodLink RX7 121 yX5_goOn, Cond.instanceMethod yX5_goOn, Cond.selects RX5 yX5_goOn yX5_goOn, Cond.code yX5_goOn cX5_goOn 1 none, Cond.methodLink RL 57 yX8_fill, Cond.instanceMethod yX8_fill, Cond.selects RX8 yX8_fill yX8_fill, Cond.code yX8_fill cX8_fill 2 (some .int), Cond.methodLink RX8 200 yX8_inMany, Cond.instanceMethod yX8_inMany, Cond.selects RX8 yX8_inMany yX8_inMany, Cond.code yX8_inMany cX8_inMany 3 (some .int), Cond.methodLink RX8 204 yX8_comes, Cond.instanceMethod yX8_comes, Cond.selects RX8 yX8_comes yX8_comes, Cond.code yX8_comes cX8_comes 4 (some .int), Cond.fieldLink RX8 190 "BlueCoatsModel" "giverNext" "I", Cond.methodLink RX8 193 yX8_mayCome, Cond.instanceMethod yX8_mayCome, Cond.selects RX8 yX8_mayCome yX8_mayCome, Cond.code yX8_mayCome cX8_mayCome 2 (some .boolean), Cond.methodLink RX8 186 yX8_votes]
def wsL_law0_r22 : List Cond := [Cond.instanceMethod yX8_votes, Cond.selects RX8 yX8_votes yX8_votes, Cond.code yX8_votes cX8_votes 4 (some .int), Cond.methodLink RX8 196 yX8_isAhead, Cond.instanceMethod yX8_isAhead, Cond.selects RX8 yX8_isAhead yX8_isAhead, Cond.code yX8_isAhead cX8_isAhead 4 (some .boolean), Cond.methodLink RL 58 yX7_year, Cond.instanceMethod yX7_year, Cond.selects RX7 yX7_year yX7_year, Cond.code yX7_year cX7_year 3 (some .int), Cond.fieldLink RX7 167 "BlueCoats$Children" "coat" "[I", Cond.fieldLink RX7 173 "BlueCoats$Wardrobe" "number" "I", Cond.fieldLink RX7 174 "BlueCoats$Statutes" "wear" "I", Cond.methodLink RX7 164 yX1_grow, Cond.instanceMethod yX1_grow, Cond.selects RX1 yX1_grow yX1_grow, Cond.code yX1_grow cX1_grow 2 none, Cond.methodLink RX1 42 Lib.Math.min.name, Cond.methodLink RX1 38 yX1_has, Cond.methodLink RX7 170 yX7_handIn, Cond.instanceMethod yX7_handIn, Cond.selects RX7 yX7_handIn yX7_handIn, Cond.code yX7_handIn cX7_handIn 3 none]
def wsL_law0_r23 : List Cond := [Cond.fieldLink RX7 182 "BlueCoats$Wardrobe" "wearer" "[I", Cond.methodLink RX7 181 yX6_has, Cond.instanceMethod yX6_has, Cond.selects RX6 yX6_has yX6_has, Cond.code yX6_has cX6_has 2 (some .boolean), Cond.fieldLink RX6 25 "BlueCoats$Wardrobe" "number" "I", Cond.methodLink RX7 177 yX6_wearOut, Cond.instanceMethod yX6_wearOut, Cond.selects RX6 yX6_wearOut yX6_wearOut, Cond.code yX6_wearOut cX6_wearOut 3 (some .boolean), Cond.methodLink RX6 29 yX6_has, Cond.methodLink RL 61 yX8_year, Cond.instanceMethod yX8_year, Cond.selects RX8 yX8_year yX8_year, Cond.code yX8_year cX8_year 4 (some .int), Cond.fieldLink RX8 207 "BlueCoatsModel" "years" "I", Cond.fieldLink RX8 210 "BlueCoatsModel" "coats" "I", Cond.methodLink RL 62 yX7_feast, Cond.instanceMethod yX7_feast, Cond.selects RX7 yX7_feast yX7_feast, Cond.code yX7_feast cX7_feast 5 (some .int), Cond.fieldLink RX7 185 "BlueCoats$Statutes" "spare" "I", Cond.fieldLink RX7 195 "BlueCoats$Dressing" "guests" "I", Cond.fieldLink RX7 198 "BlueCoats$Dressing" "guest" "[I"]
def wsL_law0_r24 : List Cond := [Cond.fieldLink RX7 201 "BlueCoats$Dressing" "given" "[I", Cond.fieldLink RX7 204 "BlueCoats$Children" "size" "[I", Cond.methodLink RX7 188 yX2_plan, Cond.instanceMethod yX2_plan, Cond.selects RX2 yX2_plan yX2_plan, Cond.code yX2_plan cX2_plan 4 none, Cond.methodLink RX2 25 yX2_gather, Cond.instanceMethod yX2_gather, Cond.selects RX2 yX2_gather yX2_gather, Cond.code yX2_gather cX2_gather 3 none, Cond.fieldLink RX2 39 "BlueCoats$Dressing" "guests" "I", Cond.fieldLink RX2 52 "BlueCoats$Children" "number" "I", Cond.fieldLink RX2 57 "BlueCoats$Children" "state" "[I", Cond.fieldLink RX2 60 "BlueCoats$Children" "size" "[I", Cond.methodLink RX2 29 yX2_measure, Cond.instanceMethod yX2_measure, Cond.selects RX2 yX2_measure yX2_measure, Cond.code yX2_measure cX2_measure 7 none, Cond.methodLink RX2 61 yX6_fitting, Cond.instanceMethod yX6_fitting, Cond.selects RX6 yX6_fitting yX6_fitting, Cond.code yX6_fitting cX6_fitting 6 (some .long), Cond.methodLink RX2 33 yX2_chooseDressed, Cond.instanceMethod yX2_chooseDressed]
def wsL_law0_r25 : List Cond := [Cond.selects RX2 yX2_chooseDressed yX2_chooseDressed, Cond.code yX2_chooseDressed cX2_chooseDressed 4 none, Cond.fieldLink RX2 43 "BlueCoats$Dressing" "dressed" "I", Cond.methodLink RX2 66 yX2_greatestBut, Cond.instanceMethod yX2_greatestBut, Cond.selects RX2 yX2_greatestBut yX2_greatestBut, Cond.code yX2_greatestBut cX2_greatestBut 5 (some .int), Cond.methodLink RX2 69 yX2_canDress, Cond.instanceMethod yX2_canDress, Cond.selects RX2 yX2_canDress yX2_canDress, Cond.code yX2_canDress cX2_canDress 3 (some .boolean), Cond.methodLink RX2 73 yJ13_bitCount_95d88, Cond.static yJ13_bitCount_95d88, Cond.initialized RJ13, Cond.code yJ13_bitCount_95d88 cJ13_bitCount_95d88 2 (some .int), Cond.constantLong RJ13 314 (6148914691236517205), Cond.constantLong RJ13 316 (3689348814741910323), Cond.constantLong RJ13 318 (1085102592571150095), Cond.methodLink RX2 46 yJ6_bitCount_0f7a4, Cond.static yJ6_bitCount_0f7a4, Cond.initialized RJ6, Cond.code yJ6_bitCount_0f7a4 cJ6_bitCount_0f7a4 1 (some .int), Cond.constant RJ6 265 (1431655765), Cond.constant RJ6 266 (858993459)]
def wsL_law0_r26 : List Cond := [Cond.constant RJ6 267 (252645135), Cond.methodLink RX2 36 yX2_chooseCoats, Cond.instanceMethod yX2_chooseCoats, Cond.selects RX2 yX2_chooseCoats yX2_chooseCoats, Cond.code yX2_chooseCoats cX2_chooseCoats 7 none, Cond.constantLong RX2 82 (-1), Cond.methodLink RX2 78 yX2_neededBy, Cond.instanceMethod yX2_neededBy, Cond.selects RX2 yX2_neededBy yX2_neededBy, Cond.code yX2_neededBy cX2_neededBy 9 (some .long), Cond.methodLink RX2 84 yX2_leastOf, Cond.static yX2_leastOf, Cond.code yX2_leastOf cX2_leastOf 3 (some .int), Cond.methodLink RX7 192 yX2_newCoats, Cond.instanceMethod yX2_newCoats, Cond.selects RX2 yX2_newCoats yX2_newCoats, Cond.code yX2_newCoats cX2_newCoats 1 (some .int), Cond.methodLink RX7 207 yX6_cut, Cond.instanceMethod yX6_cut, Cond.selects RX6 yX6_cut yX6_cut, Cond.code yX6_cut cX6_cut 2 (some .int), Cond.methodLink RX7 210 yX7_handOut, Cond.instanceMethod yX7_handOut, Cond.selects RX7 yX7_handOut yX7_handOut]
def wsL_law0_r27 : List Cond := [Cond.code yX7_handOut cX7_handOut 3 none, Cond.methodLink RL 65 yX8_feast, Cond.instanceMethod yX8_feast, Cond.selects RX8 yX8_feast yX8_feast, Cond.code yX8_feast cX8_feast 7 (some .int), Cond.fieldLink RX8 213 "BlueCoatsModel" "insideMany" "I", Cond.methodLink RX8 219 yX8_sets, Cond.instanceMethod yX8_sets, Cond.selects RX8 yX8_sets yX8_sets, Cond.code yX8_sets cX8_sets 6 none, Cond.methodLink RX8 216 yX8_suits, Cond.instanceMethod yX8_suits, Cond.selects RX8 yX8_suits yX8_suits, Cond.code yX8_suits cX8_suits 3 (some .boolean), Cond.methodLink RX8 223 yX8_clothOf, Cond.instanceMethod yX8_clothOf, Cond.selects RX8 yX8_clothOf yX8_clothOf, Cond.code yX8_clothOf cX8_clothOf 4 (some .int), Cond.methodLink RX8 226 yX8_isFirst, Cond.instanceMethod yX8_isFirst, Cond.selects RX8 yX8_isFirst yX8_isFirst, Cond.code yX8_isFirst cX8_isFirst 6 (some .boolean), Cond.methodLink RL 66 yX7_legacy, Cond.instanceMethod yX7_legacy]
def wsL_law0_r28 : List Cond := [Cond.selects RX7 yX7_legacy yX7_legacy, Cond.code yX7_legacy cX7_legacy 3 (some .int), Cond.methodLink RX7 214 yX0_add, Cond.instanceMethod yX0_add, Cond.selects RX0 yX0_add yX0_add, Cond.code yX0_add cX0_add 3 (some .int), Cond.fieldLink RX0 30 "BlueCoats$Chest" "number" "I", Cond.methodLink RL 69 yX8_legacy, Cond.instanceMethod yX8_legacy, Cond.selects RX8 yX8_legacy yX8_legacy, Cond.code yX8_legacy cX8_legacy 3 (some .int), Cond.fieldLink RX8 229 "BlueCoatsModel" "legacies" "I", Cond.methodLink RL 70 yX7_need, Cond.instanceMethod yX7_need, Cond.selects RX7 yX7_need yX7_need, Cond.code yX7_need cX7_need 3 (some .boolean), Cond.fieldLink RX7 216 "BlueCoats$Chest" "need" "[I", Cond.methodLink RL 73 yX8_need, Cond.instanceMethod yX8_need, Cond.selects RX8 yX8_need yX8_need, Cond.code yX8_need cX8_need 3 (some .boolean), Cond.methodLink RL 74 yX7_owed, Cond.instanceMethod yX7_owed, Cond.selects RX7 yX7_owed yX7_owed]
def wsL_law0_r29 : List Cond := [Cond.code yX7_owed cX7_owed 3 (some .int), Cond.fieldLink RX7 219 "BlueCoats$Chest" "toEnd" "[I", Cond.fieldLink RX7 222 "BlueCoats$Chest" "number" "I", Cond.fieldLink RX7 223 "BlueCoats$Chest" "fromLegacy" "[I", Cond.fieldLink RX7 226 "BlueCoats$Chest" "shortfall" "I", Cond.fieldLink RX7 229 "BlueCoats$Chest" "proof" "I", Cond.methodLink RX7 217 yX0_plan, Cond.instanceMethod yX0_plan, Cond.selects RX0 yX0_plan yX0_plan, Cond.code yX0_plan cX0_plan 1 none, Cond.methodLink RX0 34 yX0_planEnds, Cond.instanceMethod yX0_planEnds, Cond.selects RX0 yX0_planEnds yX0_planEnds, Cond.code yX0_planEnds cX0_planEnds 5 none, Cond.fieldLink RX0 48 "BlueCoats$Chest" "shortfall" "I", Cond.fieldLink RX0 51 "BlueCoats$Chest" "proof" "I", Cond.methodLink RX0 40 yX0_setLack, Cond.instanceMethod yX0_setLack, Cond.selects RX0 yX0_setLack yX0_setLack, Cond.code yX0_setLack cX0_setLack 4 none, Cond.methodLink RX0 44 yX0_lessenLack, Cond.instanceMethod yX0_lessenLack, Cond.selects RX0 yX0_lessenLack yX0_lessenLack, Cond.code yX0_lessenLack cX0_lessenLack 3 none]
def wsL_law0_r30 : List Cond := [Cond.methodLink RX0 37 yX0_planLegacies, Cond.instanceMethod yX0_planLegacies, Cond.selects RX0 yX0_planLegacies yX0_planLegacies, Cond.code yX0_planLegacies cX0_planLegacies 5 none, Cond.methodLink RX0 54 yX0_greatestLack, Cond.instanceMethod yX0_greatestLack, Cond.selects RX0 yX0_greatestLack yX0_greatestLack, Cond.code yX0_greatestLack cX0_greatestLack 3 (some .int), Cond.methodLink RX0 58 Lib.Math.max.name, Cond.static Lib.Math.max.name, Cond.code Lib.Math.max.name Lib.Math.max.code 2 (some .int), Cond.methodLink RL 77 yX8_owed, Cond.instanceMethod yX8_owed, Cond.selects RX8 yX8_owed yX8_owed, Cond.code yX8_owed cX8_owed 5 (some .int), Cond.methodLink RX8 238 yX8_deal, Cond.instanceMethod yX8_deal, Cond.selects RX8 yX8_deal yX8_deal, Cond.code yX8_deal cX8_deal 7 none, Cond.methodLink RX8 232 yX8_coinsFor, Cond.instanceMethod yX8_coinsFor, Cond.selects RX8 yX8_coinsFor yX8_coinsFor, Cond.code yX8_coinsFor cX8_coinsFor 4 (some .int), Cond.methodLink RX8 241 yX8_shortage]
def wsL_law0_r31 : List Cond := [Cond.instanceMethod yX8_shortage, Cond.selects RX8 yX8_shortage yX8_shortage, Cond.code yX8_shortage cX8_shortage 4 (some .int), Cond.methodLink RX8 235 yX8_needOf, Cond.instanceMethod yX8_needOf, Cond.selects RX8 yX8_needOf yX8_needOf, Cond.code yX8_needOf cX8_needOf 4 (some .int), Cond.methodLink RL 78 yX7_pay, Cond.instanceMethod yX7_pay, Cond.selects RX7 yX7_pay yX7_pay, Cond.code yX7_pay cX7_pay 1 (some .int), Cond.methodLink RX7 232 yX0_payPlanned, Cond.instanceMethod yX0_payPlanned, Cond.selects RX0 yX0_payPlanned yX0_payPlanned, Cond.code yX0_payPlanned cX0_payPlanned 3 (some .int), Cond.methodLink RL 81 yX8_pay, Cond.instanceMethod yX8_pay, Cond.selects RX8 yX8_pay yX8_pay, Cond.code yX8_pay cX8_pay 3 (some .int), Cond.methodLink RL 82 yL_look, Cond.static yL_look, Cond.initialized RL, Cond.codeWith yL_look cL_look 5 (some .int) [(0, 10, 13, 13), (0, 10, 17, 15)], Cond.classLink RL 13 "java/lang/IndexOutOfBoundsException"]
def wsL_law0_r32 : List Cond := [Cond.classLink RL 15 "java/util/NoSuchElementException", Cond.methodLink RL 7 yX7_look, Cond.instanceMethod yX7_look, Cond.selects RX7 yX7_look yX7_look, Cond.code yX7_look cX7_look 3 (some .int), Cond.classLink RX7 235 "java/lang/IndexOutOfBoundsException", Cond.initialized "java/lang/IndexOutOfBoundsException", Cond.classLink RX7 242 "java/util/NoSuchElementException", Cond.initialized "java/util/NoSuchElementException", Cond.methodLink RL 87 yX8_look, Cond.instanceMethod yX8_look, Cond.selects RX8 yX8_look yX8_look, Cond.code yX8_look cX8_look 3 (some .int), Cond.methodLink RX8 244 yX8_fails, Cond.instanceMethod yX8_fails, Cond.selects RX8 yX8_fails yX8_fails, Cond.code yX8_fails cX8_fails 2 (some .int), Cond.methodLink RX8 247 yX8_coatOf, Cond.instanceMethod yX8_coatOf, Cond.selects RX8 yX8_coatOf yX8_coatOf, Cond.code yX8_coatOf cX8_coatOf 3 (some .int), Cond.methodLink RL 88 yX8_thrown, Cond.instanceMethod yX8_thrown, Cond.selects RX8 yX8_thrown yX8_thrown]
def wsL_law0_r33 : List Cond := [Cond.code yX8_thrown cX8_thrown 1 (some .int), Cond.methodLink RL 91 yX7_coat, Cond.instanceMethod yX7_coat, Cond.selects RX7 yX7_coat yX7_coat, Cond.code yX7_coat cX7_coat 3 (some .int), Cond.fieldLink RX7 247 "BlueCoats$Wardrobe" "size" "[I", Cond.fieldLink RX7 248 "BlueCoats$Wardrobe" "worn" "[I", Cond.fieldLink RX7 251 "BlueCoats$Wardrobe" "gone" "[Z", Cond.methodLink RL 94 yX8_coat, Cond.instanceMethod yX8_coat, Cond.selects RX8 yX8_coat yX8_coat, Cond.code yX8_coat cX8_coat 3 (some .int), Cond.methodLink RL 95 yX7_count, Cond.instanceMethod yX7_count, Cond.selects RX7 yX7_count yX7_count, Cond.code yX7_count cX7_count 2 (some .int), Cond.methodLink RL 98 yX8_count, Cond.instanceMethod yX8_count, Cond.selects RX8 yX8_count yX8_count, Cond.code yX8_count cX8_count 2 (some .int)]
def wsL_law0 : List Cond := (wsL_law0_r1 ++ (wsL_law0_r2 ++ (wsL_law0_r3 ++ (wsL_law0_r4 ++ (wsL_law0_r5 ++ (wsL_law0_r6 ++ (wsL_law0_r7 ++ (wsL_law0_r8 ++ (wsL_law0_r9 ++ (wsL_law0_r10 ++ (wsL_law0_r11 ++ (wsL_law0_r12 ++ (wsL_law0_r13 ++ (wsL_law0_r14 ++ (wsL_law0_r15 ++ (wsL_law0_r16 ++ (wsL_law0_r17 ++ (wsL_law0_r18 ++ (wsL_law0_r19 ++ (wsL_law0_r20 ++ (wsL_law0_r21 ++ (wsL_law0_r22 ++ (wsL_law0_r23 ++ (wsL_law0_r24 ++ (wsL_law0_r25 ++ (wsL_law0_r26 ++ (wsL_law0_r27 ++ (wsL_law0_r28 ++ (wsL_law0_r29 ++ (wsL_law0_r30 ++ (wsL_law0_r31 ++ (wsL_law0_r32 ++ wsL_law0_r33)))))))))))))))))))))))))))))))) ++ wsX70 ++ wsX80 ++ wsX40 ++ wsX50 ++ wsX30 ++ wsX10 ++ wsX60 ++ wsX20 ++ wsX00 ++ ([] : List Cond)
def wsL_law : List Cond := wsL_law0 ++ (vx_atS RX7 239 "java/lang/IndexOutOfBoundsException" ["java/lang/RuntimeException", "java/lang/Exception"]).filter goodWord ++ (vx_atS RX7 246 "java/util/NoSuchElementException" ["java/lang/RuntimeException", "java/lang/Exception"]).filter goodWord
theorem inJ6 : ∀ w ∈ wsJ60, w ∈ lw_tbl := by decide +kernel
theorem inJ13 : ∀ w ∈ wsJ130, w ∈ lw_tbl := by decide +kernel
theorem inJ9 : ∀ w ∈ wsJ90, w ∈ lw_tbl := by decide +kernel
theorem inJ0 : ∀ w ∈ wsJ00, w ∈ lw_tbl := by decide +kernel
theorem inJ1 : ∀ w ∈ wsJ10, w ∈ lw_tbl := by decide +kernel
theorem inJ2 : ∀ w ∈ wsJ20, w ∈ lw_tbl := by decide +kernel
theorem inJ10 : ∀ w ∈ wsJ100, w ∈ lw_tbl := by decide +kernel
theorem inJ3 : ∀ w ∈ wsJ30, w ∈ lw_tbl := by decide +kernel
abbrev vwCl : List vw_C := [(RX0, TX0, 9), (RX1, TX1, 7), (RX2, TX2, 6), (RX3, TX3, 4), (RX4, TX4, 11), (RX5, TX5, 9), (RX6, TX6, 5), (RX7, TX7, 8), (RX8, TX8, 52)]
end
section
set_option maxRecDepth 20000 in
theorem ggX0_plan_X0_planEnds : GoodIn wsX0_plan wsX0_planEnds := goodIn_r _ [5, 6, 7, 8, 9, 10, 11, 12, 13, 14, 4, 15, 16, 17, 18, 19, 20, 21, 35, 36, 37, 38, 39, 40, 41, 42, 43] (by decide +kernel) (by decide +kernel)
set_option maxRecDepth 20000 in
theorem gX0_plan_X0_planEnds : GoodIn wsX0_plan (wsV RX0 34 RX0 yX0_planEnds wsX0_planEnds) := goodIn_app (goodIn_of _ (by decide +kernel)) ggX0_plan_X0_planEnds
set_option maxRecDepth 20000 in
theorem ggX0_plan_X0_planLegacies : GoodIn wsX0_plan wsX0_planLegacies := goodIn_r _ [25, 11, 10, 7, 26, 12, 13, 14, 4, 15, 16, 17, 18, 19, 20, 21, 27, 28, 29, 30, 31, 32, 33, 34, 35, 36, 37, 38, 39, 40, 41, 42, 43] (by decide +kernel) (by decide +kernel)
set_option maxRecDepth 20000 in
theorem gX0_plan_X0_planLegacies : GoodIn wsX0_plan (wsV RX0 37 RX0 yX0_planLegacies wsX0_planLegacies) := goodIn_app (goodIn_of _ (by decide +kernel)) ggX0_plan_X0_planLegacies
set_option maxRecDepth 20000 in
theorem ggX0_planEnds_X0_setLack : GoodIn wsX0_planEnds wsX0_setLack := goodIn_r _ [11, 5, 18, 19, 20, 21, 22, 23, 24, 25, 26] (by decide +kernel) (by decide +kernel)
set_option maxRecDepth 20000 in
theorem gX0_planEnds_X0_setLack : GoodIn wsX0_planEnds (wsV RX0 40 RX0 yX0_setLack wsX0_setLack) := goodIn_app (goodIn_of _ (by decide +kernel)) ggX0_planEnds_X0_setLack
set_option maxRecDepth 20000 in
theorem ggX0_planEnds_X0_lessenLack : GoodIn wsX0_planEnds wsX0_lessenLack := goodIn_r _ [15, 16, 5, 17, 18, 19, 20, 21, 22, 23, 24, 25, 26] (by decide +kernel) (by decide +kernel)
set_option maxRecDepth 20000 in
theorem gX0_planEnds_X0_lessenLack : GoodIn wsX0_planEnds (wsV RX0 44 RX0 yX0_lessenLack wsX0_lessenLack) := goodIn_app (goodIn_of _ (by decide +kernel)) ggX0_planEnds_X0_lessenLack
set_option maxRecDepth 20000 in
theorem ggX0_planLegacies_X0_setLack : GoodIn wsX0_planLegacies wsX0_setLack := goodIn_r _ [9, 2, 24, 25, 26, 27, 28, 29, 30, 31, 32] (by decide +kernel) (by decide +kernel)
set_option maxRecDepth 20000 in
theorem gX0_planLegacies_X0_setLack : GoodIn wsX0_planLegacies (wsV RX0 40 RX0 yX0_setLack wsX0_setLack) := goodIn_app (goodIn_of _ (by decide +kernel)) ggX0_planLegacies_X0_setLack
set_option maxRecDepth 20000 in
theorem ggX0_planLegacies_X0_lessenLack : GoodIn wsX0_planLegacies wsX0_lessenLack := goodIn_r _ [13, 14, 2, 15, 24, 25, 26, 27, 28, 29, 30, 31, 32] (by decide +kernel) (by decide +kernel)
set_option maxRecDepth 20000 in
theorem gX0_planLegacies_X0_lessenLack : GoodIn wsX0_planLegacies (wsV RX0 44 RX0 yX0_lessenLack wsX0_lessenLack) := goodIn_app (goodIn_of _ (by decide +kernel)) ggX0_planLegacies_X0_lessenLack
set_option maxRecDepth 20000 in
theorem ggX0_planLegacies_X0_greatestLack : GoodIn wsX0_planLegacies wsX0_greatestLack := goodIn_r _ [19, 2, 20, 21, 22, 23, 24, 25, 26, 27, 28, 29, 30, 31, 32] (by decide +kernel) (by decide +kernel)
set_option maxRecDepth 20000 in
theorem gX0_planLegacies_X0_greatestLack : GoodIn wsX0_planLegacies (wsV RX0 54 RX0 yX0_greatestLack wsX0_greatestLack) := goodIn_app (goodIn_of _ (by decide +kernel)) ggX0_planLegacies_X0_greatestLack
set_option maxRecDepth 20000 in
theorem ggX1_add_X1_canBe : GoodIn wsX1_add wsX1_canBe := goodIn_r _ [11] (by decide +kernel) (by decide +kernel)
set_option maxRecDepth 20000 in
theorem gX1_add_X1_canBe : GoodIn wsX1_add (va_wsS RX1 34 yX1_canBe wsX1_canBe) := goodIn_app (goodIn_of _ (by decide +kernel)) ggX1_add_X1_canBe
set_option maxRecDepth 20000 in
theorem ggX1_grow_X1_has : GoodIn wsX1_grow wsX1_has := goodIn_r _ [12, 13, 14, 15, 16, 17, 18, 19, 20] (by decide +kernel) (by decide +kernel)
set_option maxRecDepth 20000 in
theorem gX1_grow_X1_has : GoodIn wsX1_grow (wsV RX1 38 RX1 yX1_has wsX1_has) := goodIn_app (goodIn_of _ (by decide +kernel)) ggX1_grow_X1_has
set_option maxRecDepth 20000 in
theorem ggX2_plan_X2_gather : GoodIn wsX2_plan wsX2_gather := goodIn_r _ [5, 6, 7, 8, 9, 10, 11, 65, 66, 67, 68, 69, 70, 71, 72, 73, 74, 75, 76, 77] (by decide +kernel) (by decide +kernel)
set_option maxRecDepth 20000 in
theorem gX2_plan_X2_gather : GoodIn wsX2_plan (wsV RX2 25 RX2 yX2_gather wsX2_gather) := goodIn_app (goodIn_of _ (by decide +kernel)) ggX2_plan_X2_gather
set_option maxRecDepth 20000 in
theorem ggX2_plan_X2_measure : GoodIn wsX2_plan wsX2_measure := goodIn_r _ [15, 16, 6, 10, 17, 18, 19, 20, 21, 22, 23, 24, 65, 66, 67, 68, 69, 70, 78, 79, 80, 81, 82] (by decide +kernel) (by decide +kernel)
set_option maxRecDepth 20000 in
theorem gX2_plan_X2_measure : GoodIn wsX2_plan (wsV RX2 29 RX2 yX2_measure wsX2_measure) := goodIn_app (goodIn_of _ (by decide +kernel)) ggX2_plan_X2_measure
set_option maxRecDepth 20000 in
theorem ggX2_plan_X2_chooseDressed : GoodIn wsX2_plan wsX2_chooseDressed := goodIn_r _ [28, 29, 6, 30, 31, 32, 4, 33, 10, 34, 35, 36, 37, 16, 38, 39, 40, 41, 42, 43, 44, 45, 46, 47, 48, 49, 50, 51, 65, 66, 67, 68, 69, 70] (by decide +kernel) (by decide +kernel)
set_option maxRecDepth 20000 in
theorem gX2_plan_X2_chooseDressed : GoodIn wsX2_plan (wsV RX2 33 RX2 yX2_chooseDressed wsX2_chooseDressed) := goodIn_app (goodIn_of _ (by decide +kernel)) ggX2_plan_X2_chooseDressed
set_option maxRecDepth 20000 in
theorem ggX2_plan_X2_chooseCoats : GoodIn wsX2_plan wsX2_chooseCoats := goodIn_r _ [55, 16, 6, 56, 29, 57, 58, 59, 60, 4, 61, 38, 39, 40, 41, 42, 43, 44, 45, 46, 47, 48, 49, 50, 51, 62, 63, 64, 65, 66, 67, 68, 69, 70] (by decide +kernel) (by decide +kernel)
set_option maxRecDepth 20000 in
theorem gX2_plan_X2_chooseCoats : GoodIn wsX2_plan (wsV RX2 36 RX2 yX2_chooseCoats wsX2_chooseCoats) := goodIn_app (goodIn_of _ (by decide +kernel)) ggX2_plan_X2_chooseCoats
set_option maxRecDepth 20000 in
theorem ggX2_newCoats_J6_bitCount_0f7a4 : GoodIn wsX2_newCoats wsJ6_bitCount_0f7a4 := goodIn_r _ [6, 7, 8, 9] (by decide +kernel) (by decide +kernel)
set_option maxRecDepth 20000 in
theorem gX2_newCoats_J6_bitCount_0f7a4 : GoodIn wsX2_newCoats (va_wsS RX2 46 yJ6_bitCount_0f7a4 wsJ6_bitCount_0f7a4) := goodIn_app (goodIn_of _ (by decide +kernel)) ggX2_newCoats_J6_bitCount_0f7a4
set_option maxRecDepth 20000 in
theorem ggX2_measure_X6_fitting : GoodIn wsX2_measure wsX6_fitting := goodIn_r _ [8, 9, 10, 11, 18, 19, 20, 21, 22] (by decide +kernel) (by decide +kernel)
set_option maxRecDepth 20000 in
theorem gX2_measure_X6_fitting : GoodIn wsX2_measure (wsV RX2 61 RX6 yX6_fitting wsX6_fitting) := goodIn_app (goodIn_of _ (by decide +kernel)) ggX2_measure_X6_fitting
set_option maxRecDepth 20000 in
theorem ggX2_chooseDressed_X2_greatestBut : GoodIn wsX2_chooseDressed wsX2_greatestBut := goodIn_r _ [7, 2, 8, 28, 29, 30, 31, 32, 33] (by decide +kernel) (by decide +kernel)
set_option maxRecDepth 20000 in
theorem gX2_chooseDressed_X2_greatestBut : GoodIn wsX2_chooseDressed (wsV RX2 66 RX2 yX2_greatestBut wsX2_greatestBut) := goodIn_app (goodIn_of _ (by decide +kernel)) ggX2_chooseDressed_X2_greatestBut
set_option maxRecDepth 20000 in
theorem ggX2_chooseDressed_X2_canDress : GoodIn wsX2_chooseDressed wsX2_canDress := goodIn_r _ [12, 2, 13, 14, 15, 16, 17, 18, 19, 20, 21, 22, 23, 24, 25, 26, 27, 28, 29, 30, 31, 32, 33] (by decide +kernel) (by decide +kernel)
set_option maxRecDepth 20000 in
theorem gX2_chooseDressed_X2_canDress : GoodIn wsX2_chooseDressed (wsV RX2 69 RX2 yX2_canDress wsX2_canDress) := goodIn_app (goodIn_of _ (by decide +kernel)) ggX2_chooseDressed_X2_canDress
set_option maxRecDepth 20000 in
theorem ggX2_canDress_J13_bitCount_95d88 : GoodIn wsX2_canDress wsJ13_bitCount_95d88 := goodIn_r _ [6, 7, 8, 9] (by decide +kernel) (by decide +kernel)
set_option maxRecDepth 20000 in
theorem gX2_canDress_J13_bitCount_95d88 : GoodIn wsX2_canDress (va_wsS RX2 73 yJ13_bitCount_95d88 wsJ13_bitCount_95d88) := goodIn_app (goodIn_of _ (by decide +kernel)) ggX2_canDress_J13_bitCount_95d88
set_option maxRecDepth 20000 in
theorem ggX2_canDress_J6_bitCount_0f7a4 : GoodIn wsX2_canDress wsJ6_bitCount_0f7a4 := goodIn_r _ [13, 14, 15, 16] (by decide +kernel) (by decide +kernel)
set_option maxRecDepth 20000 in
theorem gX2_canDress_J6_bitCount_0f7a4 : GoodIn wsX2_canDress (va_wsS RX2 46 yJ6_bitCount_0f7a4 wsJ6_bitCount_0f7a4) := goodIn_app (goodIn_of _ (by decide +kernel)) ggX2_canDress_J6_bitCount_0f7a4
set_option maxRecDepth 20000 in
theorem ggX2_chooseCoats_X2_neededBy : GoodIn wsX2_chooseCoats wsX2_neededBy := goodIn_r _ [10, 2, 1, 11, 12, 13, 14, 15, 16, 17, 18, 19, 20, 21, 22, 23, 24, 28, 29, 30, 31, 32, 33] (by decide +kernel) (by decide +kernel)
set_option maxRecDepth 20000 in
theorem gX2_chooseCoats_X2_neededBy : GoodIn wsX2_chooseCoats (wsV RX2 78 RX2 yX2_neededBy wsX2_neededBy) := goodIn_app (goodIn_of _ (by decide +kernel)) ggX2_chooseCoats_X2_neededBy
set_option maxRecDepth 20000 in
theorem ggX2_chooseCoats_X2_leastOf : GoodIn wsX2_chooseCoats wsX2_leastOf := goodIn_r _ [27] (by decide +kernel) (by decide +kernel)
set_option maxRecDepth 20000 in
theorem gX2_chooseCoats_X2_leastOf : GoodIn wsX2_chooseCoats (va_wsS RX2 84 yX2_leastOf wsX2_leastOf) := goodIn_app (goodIn_of _ (by decide +kernel)) ggX2_chooseCoats_X2_leastOf
set_option maxRecDepth 20000 in
theorem ggX2_neededBy_J13_bitCount_95d88 : GoodIn wsX2_neededBy wsJ13_bitCount_95d88 := goodIn_r _ [6, 7, 8, 9] (by decide +kernel) (by decide +kernel)
set_option maxRecDepth 20000 in
theorem gX2_neededBy_J13_bitCount_95d88 : GoodIn wsX2_neededBy (va_wsS RX2 73 yJ13_bitCount_95d88 wsJ13_bitCount_95d88) := goodIn_app (goodIn_of _ (by decide +kernel)) ggX2_neededBy_J13_bitCount_95d88
set_option maxRecDepth 20000 in
theorem ggX2_neededBy_J6_bitCount_0f7a4 : GoodIn wsX2_neededBy wsJ6_bitCount_0f7a4 := goodIn_r _ [13, 14, 15, 16] (by decide +kernel) (by decide +kernel)
set_option maxRecDepth 20000 in
theorem gX2_neededBy_J6_bitCount_0f7a4 : GoodIn wsX2_neededBy (va_wsS RX2 46 yJ6_bitCount_0f7a4 wsJ6_bitCount_0f7a4) := goodIn_app (goodIn_of _ (by decide +kernel)) ggX2_neededBy_J6_bitCount_0f7a4
set_option maxRecDepth 20000 in
theorem ggX3_take_X3_has : GoodIn wsX3_take wsX3_has := goodIn_r _ [7, 8, 9, 10, 11, 12] (by decide +kernel) (by decide +kernel)
set_option maxRecDepth 20000 in
theorem gX3_take_X3_has : GoodIn wsX3_take (wsV RX3 22 RX3 yX3_has wsX3_has) := goodIn_app (goodIn_of _ (by decide +kernel)) ggX3_take_X3_has
set_option maxRecDepth 20000 in
theorem ggX3_childOf_X3_has : GoodIn wsX3_childOf wsX3_has := goodIn_r _ [6, 7, 8, 9, 10, 11] (by decide +kernel) (by decide +kernel)
set_option maxRecDepth 20000 in
theorem gX3_childOf_X3_has : GoodIn wsX3_childOf (wsV RX3 22 RX3 yX3_has wsX3_has) := goodIn_app (goodIn_of _ (by decide +kernel)) ggX3_childOf_X3_has
set_option maxRecDepth 20000 in
theorem ggX4_init_X5_init : GoodIn wsX4_init wsX5_init := goodIn_r _ [14, 15, 2, 3, 16, 17, 18, 19, 20, 6, 21, 22, 23, 24, 25, 26, 27, 28, 29, 30, 31, 32, 33, 34, 35, 36, 37, 38] (by decide +kernel) (by decide +kernel)
set_option maxRecDepth 20000 in
theorem gX4_init_X5_init : GoodIn wsX4_init (wsX5_init) := ggX4_init_X5_init
set_option maxRecDepth 20000 in
theorem ggX4_read_X5_sayNothing : GoodIn wsX4_read wsX5_sayNothing := goodIn_r _ [17, 18, 19, 20, 21, 22, 23, 24, 25, 26, 161, 162, 163, 164, 165, 166, 167, 168, 169] (by decide +kernel) (by decide +kernel)
set_option maxRecDepth 20000 in
theorem gX4_read_X5_sayNothing : GoodIn wsX4_read (wsV RX4 47 RX5 yX5_sayNothing wsX5_sayNothing) := goodIn_app (goodIn_of _ (by decide +kernel)) ggX4_read_X5_sayNothing
set_option maxRecDepth 20000 in
theorem ggX4_read_X4_advance : GoodIn wsX4_read wsX4_advance := goodIn_r _ [31, 7, 32, 6, 12, 33, 34, 35, 30, 36, 37, 38, 39, 40, 41, 42, 43, 44, 45, 46, 47, 48, 49, 50, 51, 52, 2, 3, 4, 5, 150, 151, 152, 153, 154, 155, 156, 157, 158, 159, 160] (by decide +kernel) (by decide +kernel)
set_option maxRecDepth 20000 in
theorem gX4_read_X4_advance : GoodIn wsX4_read (wsV RX4 50 RX4 yX4_advance wsX4_advance) := goodIn_app (goodIn_of _ (by decide +kernel)) ggX4_read_X4_advance
set_option maxRecDepth 20000 in
theorem ggX4_read_X4_begunLine : GoodIn wsX4_read wsX4_begunLine := goodIn_r _ [56, 8, 57, 58, 59, 30, 60, 61, 62, 63, 64, 12, 7, 32, 65, 66, 67, 68, 69, 70, 71, 72, 73, 74, 75, 76, 33, 34, 35, 36, 6, 37, 77, 78, 79, 80, 81, 82, 83, 84, 85, 86, 87, 88, 89, 90, 91, 92, 93, 94, 95, 96, 97, 98, 99, 100, 101, 102, 103, 104, 105, 106, 107, 108, 109, 110, 111, 112, 113, 114, 115, 116, 117, 9, 10, 27, 28, 29, 31, 38, 39, 40, 41, 42, 43, 44, 45, 46, 47, 48, 49, 50, 51, 52, 2, 3, 4, 5, 150, 151, 152, 153, 154, 155, 156, 157, 158, 159, 160] (by decide +kernel) (by decide +kernel)
set_option maxRecDepth 20000 in
theorem gX4_read_X4_begunLine : GoodIn wsX4_read (wsV RX4 56 RX4 yX4_begunLine wsX4_begunLine) := goodIn_app (goodIn_of _ (by decide +kernel)) ggX4_read_X4_begunLine
set_option maxRecDepth 20000 in
theorem ggX4_read_X4_readRest : GoodIn wsX4_read wsX4_readRest := goodIn_r _ [121, 11, 122, 123, 124, 125, 126, 127, 128, 30, 129, 130, 131, 132, 133, 134, 135, 61, 62, 63, 64, 12, 7, 32, 65, 66, 67, 68, 69, 70, 71, 72, 73, 74, 75, 76, 33, 34, 35, 36, 6, 37, 77, 78, 79, 80, 81, 82, 83, 84, 85, 86, 87, 88, 89, 90, 91, 92, 93, 94, 95, 96, 97, 98, 99, 100, 101, 102, 103, 104, 105, 106, 107, 108, 109, 110, 111, 112, 113, 114, 115, 116, 117, 9, 10, 27, 28, 29, 31, 38, 39, 40, 41, 42, 43, 44, 45, 46, 47, 48, 49, 50, 51, 52, 2, 3, 4, 5, 136, 137, 138, 139, 140, 141, 142, 143, 144, 145, 150, 151, 152, 153, 154, 155, 156, 157, 158, 159, 160, 161, 162, 163, 164, 165, 166, 167, 168, 169] (by decide +kernel) (by decide +kernel)
set_option maxRecDepth 20000 in
theorem gX4_read_X4_readRest : GoodIn wsX4_read (wsV RX4 60 RX4 yX4_readRest wsX4_readRest) := goodIn_app (goodIn_of _ (by decide +kernel)) ggX4_read_X4_readRest
set_option maxRecDepth 20000 in
theorem ggX4_read_X4_endLine : GoodIn wsX4_read wsX4_endLine := goodIn_r _ [149, 9, 12, 27, 28, 29, 30, 31, 7, 32, 6, 33, 34, 35, 36, 37, 38, 39, 40, 41, 42, 43, 44, 45, 46, 47, 48, 49, 50, 51, 52, 2, 3, 4, 5, 114, 115, 116, 117, 10, 150, 151, 152, 153, 154, 155, 156, 157, 158, 159, 160] (by decide +kernel) (by decide +kernel)
set_option maxRecDepth 20000 in
theorem gX4_read_X4_endLine : GoodIn wsX4_read (wsV RX4 64 RX4 yX4_endLine wsX4_endLine) := goodIn_app (goodIn_of _ (by decide +kernel)) ggX4_read_X4_endLine
set_option maxRecDepth 20000 in
theorem ggX4_begunLine_X4_lineNamed : GoodIn wsX4_begunLine wsX4_lineNamed := goodIn_r _ [6, 7, 8, 9, 5, 10, 11, 12, 13, 14, 15, 16, 17, 18, 19, 20, 21, 22, 23, 24, 25, 26, 27, 28, 29, 30, 31, 32, 33, 34, 35, 36, 37, 38, 39, 40, 41, 42, 43, 44, 45, 46, 47, 48, 49, 50, 51, 52, 53, 54, 55, 56, 57, 58, 59, 60, 61, 62, 63, 64, 65, 66, 67, 68, 98, 99, 100, 101, 102, 103, 104, 105, 106, 107, 108] (by decide +kernel) (by decide +kernel)
set_option maxRecDepth 20000 in
theorem gX4_begunLine_X4_lineNamed : GoodIn wsX4_begunLine (wsV RX4 70 RX4 yX4_lineNamed wsX4_lineNamed) := goodIn_app (goodIn_of _ (by decide +kernel)) ggX4_begunLine_X4_lineNamed
set_option maxRecDepth 20000 in
theorem ggX4_begunLine_X4_blame : GoodIn wsX4_begunLine wsX4_blame := goodIn_r _ [72, 73, 13, 74, 98, 99, 100, 101, 102, 103, 104, 105, 106, 107, 108] (by decide +kernel) (by decide +kernel)
set_option maxRecDepth 20000 in
theorem gX4_begunLine_X4_blame : GoodIn wsX4_begunLine (wsV RX4 73 RX4 yX4_blame wsX4_blame) := goodIn_app (goodIn_of _ (by decide +kernel)) ggX4_begunLine_X4_blame
set_option maxRecDepth 20000 in
theorem ggX4_begunLine_X4_advance : GoodIn wsX4_begunLine wsX4_advance := goodIn_r _ [78, 12, 13, 30, 11, 26, 27, 28, 5, 29, 31, 79, 80, 81, 82, 83, 84, 85, 86, 87, 88, 89, 90, 91, 92, 93, 94, 95, 96, 97, 98, 99, 100, 101, 102, 103, 104, 105, 106, 107, 108] (by decide +kernel) (by decide +kernel)
set_option maxRecDepth 20000 in
theorem gX4_begunLine_X4_advance : GoodIn wsX4_begunLine (wsV RX4 50 RX4 yX4_advance wsX4_advance) := goodIn_app (goodIn_of _ (by decide +kernel)) ggX4_begunLine_X4_advance
set_option maxRecDepth 20000 in
theorem ggX4_endLine_X4_advance : GoodIn wsX4_endLine wsX4_advance := goodIn_r _ [7, 8, 9, 10, 2, 11, 12, 13, 6, 14, 15, 16, 17, 18, 19, 20, 21, 22, 23, 24, 25, 26, 27, 28, 29, 30, 31, 32, 33, 34, 40, 41, 42, 43, 44, 45, 46, 47, 48, 49, 50] (by decide +kernel) (by decide +kernel)
set_option maxRecDepth 20000 in
theorem gX4_endLine_X4_advance : GoodIn wsX4_endLine (wsV RX4 50 RX4 yX4_advance wsX4_advance) := goodIn_app (goodIn_of _ (by decide +kernel)) ggX4_endLine_X4_advance
set_option maxRecDepth 20000 in
theorem ggX4_endLine_X4_blame : GoodIn wsX4_endLine wsX4_blame := goodIn_r _ [38, 1, 9, 39, 40, 41, 42, 43, 44, 45, 46, 47, 48, 49, 50] (by decide +kernel) (by decide +kernel)
set_option maxRecDepth 20000 in
theorem gX4_endLine_X4_blame : GoodIn wsX4_endLine (wsV RX4 73 RX4 yX4_blame wsX4_blame) := goodIn_app (goodIn_of _ (by decide +kernel)) ggX4_endLine_X4_blame
set_option maxRecDepth 20000 in
theorem ggX4_readRest_X4_readWays : GoodIn wsX4_readRest wsX4_readWays := goodIn_r _ [10, 1, 11, 12, 13, 14, 15, 9, 16, 17, 18, 19, 20, 21, 22, 23, 24, 25, 26, 27, 28, 29, 30, 31, 32, 33, 34, 35, 36, 37, 38, 39, 40, 41, 42, 43, 44, 45, 46, 47, 48, 49, 50, 51, 52, 53, 54, 55, 56, 57, 58, 59, 60, 61, 62, 63, 64, 65, 66, 67, 68, 69, 70, 71, 72, 73, 74, 75, 76, 77, 78, 79, 80, 81, 82, 83, 84, 85, 86, 87, 88, 89, 90, 91, 92, 93, 94, 95, 96, 97, 98, 99, 100, 101, 102, 103, 104, 105, 106, 107, 118, 119, 120, 121, 122, 123, 124, 125, 126, 127, 128, 129, 130, 131, 132, 133, 134, 135, 136, 137] (by decide +kernel) (by decide +kernel)
set_option maxRecDepth 20000 in
theorem gX4_readRest_X4_readWays : GoodIn wsX4_readRest (wsV RX4 76 RX4 yX4_readWays wsX4_readWays) := goodIn_app (goodIn_of _ (by decide +kernel)) ggX4_readRest_X4_readWays
set_option maxRecDepth 20000 in
theorem ggX4_readRest_X4_readNumber : GoodIn wsX4_readRest wsX4_readNumber := goodIn_r _ [111, 21, 102, 79, 80, 81, 9, 82, 83, 23, 84, 85, 86, 87, 88, 22, 40, 36, 37, 38, 39, 41, 89, 90, 91, 92, 93, 94, 95, 96, 97, 98, 99, 100, 101, 103, 104, 105, 106, 107, 118, 119, 120, 121, 122, 123, 124, 125, 126, 127, 128] (by decide +kernel) (by decide +kernel)
set_option maxRecDepth 20000 in
theorem gX4_readRest_X4_readNumber : GoodIn wsX4_readRest (wsV RX4 79 RX4 yX4_readNumber wsX4_readNumber) := goodIn_app (goodIn_of _ (by decide +kernel)) ggX4_readRest_X4_readNumber
set_option maxRecDepth 20000 in
theorem ggX4_readRest_X4_readAges : GoodIn wsX4_readRest wsX4_readAges := goodIn_r _ [115, 1, 116, 83, 117, 108, 109, 110, 9, 111, 21, 102, 79, 80, 81, 82, 23, 84, 85, 86, 87, 88, 22, 40, 36, 37, 38, 39, 41, 89, 90, 91, 92, 93, 94, 95, 96, 97, 98, 99, 100, 101, 103, 104, 105, 106, 107, 118, 119, 120, 121, 122, 123, 124, 125, 126, 127, 128, 129, 130, 131, 132, 133, 134, 135, 136, 137] (by decide +kernel) (by decide +kernel)
set_option maxRecDepth 20000 in
theorem gX4_readRest_X4_readAges : GoodIn wsX4_readRest (wsV RX4 85 RX4 yX4_readAges wsX4_readAges) := goodIn_app (goodIn_of _ (by decide +kernel)) ggX4_readRest_X4_readAges
set_option maxRecDepth 20000 in
theorem ggX4_readWays_X4_wayNamed : GoodIn wsX4_readWays wsX4_wayNamed := goodIn_r _ [8, 9, 10, 11, 7, 12, 13, 14, 15, 16, 17, 18, 19, 20, 21, 22, 23, 24, 25, 26, 27, 28, 29, 30, 31, 32, 33, 34, 35, 36, 37, 38, 39, 40, 41, 42, 43, 44, 45, 46, 47, 48, 49, 50, 51, 52, 53, 54, 55, 56, 57, 58, 59, 60, 61, 62, 63, 64, 65, 66, 67, 68, 69, 70, 100, 101, 102, 103, 104, 105, 106, 107, 108, 109, 110] (by decide +kernel) (by decide +kernel)
set_option maxRecDepth 20000 in
theorem gX4_readWays_X4_wayNamed : GoodIn wsX4_readWays (wsV RX4 97 RX4 yX4_wayNamed wsX4_wayNamed) := goodIn_app (goodIn_of _ (by decide +kernel)) ggX4_readWays_X4_wayNamed
set_option maxRecDepth 20000 in
theorem ggX4_readWays_X4_blame : GoodIn wsX4_readWays wsX4_blame := goodIn_r _ [74, 75, 15, 76, 100, 101, 102, 103, 104, 105, 106, 107, 108, 109, 110] (by decide +kernel) (by decide +kernel)
set_option maxRecDepth 20000 in
theorem gX4_readWays_X4_blame : GoodIn wsX4_readWays (wsV RX4 73 RX4 yX4_blame wsX4_blame) := goodIn_app (goodIn_of _ (by decide +kernel)) ggX4_readWays_X4_blame
set_option maxRecDepth 20000 in
theorem ggX4_readWays_X4_advance : GoodIn wsX4_readWays wsX4_advance := goodIn_r _ [80, 14, 15, 32, 13, 28, 29, 30, 7, 31, 33, 81, 82, 83, 84, 85, 86, 87, 88, 89, 90, 91, 92, 93, 94, 95, 96, 97, 98, 99, 100, 101, 102, 103, 104, 105, 106, 107, 108, 109, 110] (by decide +kernel) (by decide +kernel)
set_option maxRecDepth 20000 in
theorem gX4_readWays_X4_advance : GoodIn wsX4_readWays (wsV RX4 50 RX4 yX4_advance wsX4_advance) := goodIn_app (goodIn_of _ (by decide +kernel)) ggX4_readWays_X4_advance
set_option maxRecDepth 20000 in
theorem ggX4_readAges_X4_readNumber : GoodIn wsX4_readAges wsX4_readNumber := goodIn_r _ [9, 10, 11, 12, 13, 14, 8, 15, 3, 16, 17, 18, 19, 20, 21, 22, 23, 24, 25, 26, 27, 28, 29, 30, 31, 32, 33, 34, 35, 36, 37, 38, 39, 40, 41, 42, 43, 44, 45, 46, 47, 48, 49, 50, 51, 52, 53, 54, 55, 56, 57] (by decide +kernel) (by decide +kernel)
set_option maxRecDepth 20000 in
theorem gX4_readAges_X4_readNumber : GoodIn wsX4_readAges (wsV RX4 79 RX4 yX4_readNumber wsX4_readNumber) := goodIn_app (goodIn_of _ (by decide +kernel)) ggX4_readAges_X4_readNumber
set_option maxRecDepth 20000 in
theorem ggX4_readNumber_X4_blame : GoodIn wsX4_readNumber wsX4_blame := goodIn_r _ [7, 8, 9, 10, 40, 41, 42, 43, 44, 45, 46, 47, 48, 49, 50] (by decide +kernel) (by decide +kernel)
set_option maxRecDepth 20000 in
theorem gX4_readNumber_X4_blame : GoodIn wsX4_readNumber (wsV RX4 73 RX4 yX4_blame wsX4_blame) := goodIn_app (goodIn_of _ (by decide +kernel)) ggX4_readNumber_X4_blame
set_option maxRecDepth 20000 in
theorem ggX4_readNumber_X4_advance : GoodIn wsX4_readNumber wsX4_advance := goodIn_r _ [14, 15, 9, 16, 1, 17, 18, 19, 6, 20, 21, 22, 23, 24, 25, 26, 27, 28, 29, 30, 31, 32, 33, 34, 2, 35, 36, 37, 38, 39, 40, 41, 42, 43, 44, 45, 46, 47, 48, 49, 50] (by decide +kernel) (by decide +kernel)
set_option maxRecDepth 20000 in
theorem gX4_readNumber_X4_advance : GoodIn wsX4_readNumber (wsV RX4 50 RX4 yX4_advance wsX4_advance) := goodIn_app (goodIn_of _ (by decide +kernel)) ggX4_readNumber_X4_advance
set_option maxRecDepth 20000 in
theorem ggX4_lineNamed_X4_isWord : GoodIn wsX4_lineNamed wsX4_isWord := goodIn_r _ [5, 6, 7, 8, 9, 10, 11, 12, 13, 14, 15, 16, 17, 18, 19, 20, 21, 22, 23, 4, 24, 25, 26, 27, 28, 29, 30, 31, 32, 33, 34, 35, 36, 37, 38, 39, 40, 41, 42, 43, 44, 45, 46, 47, 48, 49, 50, 51, 52, 53, 54, 55, 56, 57, 58, 59, 60, 61, 62, 63, 64, 65, 66, 67, 68, 69, 70, 71, 72, 73, 74] (by decide +kernel) (by decide +kernel)
set_option maxRecDepth 20000 in
theorem gX4_lineNamed_X4_isWord : GoodIn wsX4_lineNamed (wsV RX4 117 RX4 yX4_isWord wsX4_isWord) := goodIn_app (goodIn_of _ (by decide +kernel)) ggX4_lineNamed_X4_isWord
set_option maxRecDepth 20000 in
theorem ggX4_wayNamed_X4_isWord : GoodIn wsX4_wayNamed wsX4_isWord := goodIn_r _ [5, 6, 7, 8, 9, 10, 11, 12, 13, 14, 15, 16, 17, 18, 19, 20, 21, 22, 23, 4, 24, 25, 26, 27, 28, 29, 30, 31, 32, 33, 34, 35, 36, 37, 38, 39, 40, 41, 42, 43, 44, 45, 46, 47, 48, 49, 50, 51, 52, 53, 54, 55, 56, 57, 58, 59, 60, 61, 62, 63, 64, 65, 66, 67, 68, 69, 70, 71, 72, 73, 74] (by decide +kernel) (by decide +kernel)
set_option maxRecDepth 20000 in
theorem gX4_wayNamed_X4_isWord : GoodIn wsX4_wayNamed (wsV RX4 117 RX4 yX4_isWord wsX4_isWord) := goodIn_app (goodIn_of _ (by decide +kernel)) ggX4_wayNamed_X4_isWord
set_option maxRecDepth 20000 in
theorem ggX4_isWord_J0_length_8abf5 : GoodIn wsX4_isWord wsJ0_length_8abf5 := goodIn_r _ [8, 9, 10, 11, 12, 7, 13, 14, 15] (by decide +kernel) (by decide +kernel)
set_option maxRecDepth 20000 in
theorem gX4_isWord_J0_length_8abf5 : GoodIn wsX4_isWord (wsV RX4 131 RJ0 yJ0_length_8abf5 wsJ0_length_8abf5) := goodIn_app (goodIn_of _ (by decide +kernel)) ggX4_isWord_J0_length_8abf5
set_option maxRecDepth 20000 in
theorem ggX4_isWord_X4_signAt : GoodIn wsX4_isWord wsX4_signAt := goodIn_r _ [20, 21, 22, 60, 61, 62, 63, 64, 65, 66, 67, 68, 69, 70] (by decide +kernel) (by decide +kernel)
set_option maxRecDepth 20000 in
theorem gX4_isWord_X4_signAt : GoodIn wsX4_isWord (wsV RX4 135 RX4 yX4_signAt wsX4_signAt) := goodIn_app (goodIn_of _ (by decide +kernel)) ggX4_isWord_X4_signAt
set_option maxRecDepth 20000 in
theorem ggX4_isWord_J0_charAt_5068e : GoodIn wsX4_isWord wsJ0_charAt_5068e := goodIn_r _ [26, 9, 27, 28, 29, 7, 30, 14, 15, 31, 32, 33, 34, 35, 36, 37, 38, 39, 40, 41, 42, 43, 44, 45, 46, 47, 48, 49, 50, 51, 52, 53, 54, 55, 56, 57, 58, 59] (by decide +kernel) (by decide +kernel)
set_option maxRecDepth 20000 in
theorem gX4_isWord_J0_charAt_5068e : GoodIn wsX4_isWord (wsV RX4 139 RJ0 yJ0_charAt_5068e wsJ0_charAt_5068e) := goodIn_app (goodIn_of _ (by decide +kernel)) ggX4_isWord_J0_charAt_5068e
set_option maxRecDepth 20000 in
theorem ggX4_advance_X4_signAt : GoodIn wsX4_advance wsX4_signAt := goodIn_r _ [9, 3, 10, 30, 31, 32, 33, 34, 35, 36, 37, 38, 39, 40] (by decide +kernel) (by decide +kernel)
set_option maxRecDepth 20000 in
theorem gX4_advance_X4_signAt : GoodIn wsX4_advance (wsV RX4 135 RX4 yX4_signAt wsX4_signAt) := goodIn_app (goodIn_of _ (by decide +kernel)) ggX4_advance_X4_signAt
set_option maxRecDepth 20000 in
theorem ggX4_advance_X4_isBlank : GoodIn wsX4_advance wsX4_isBlank := goodIn_r _ [13] (by decide +kernel) (by decide +kernel)
set_option maxRecDepth 20000 in
theorem gX4_advance_X4_isBlank : GoodIn wsX4_advance (va_wsS RX4 143 yX4_isBlank wsX4_isBlank) := goodIn_app (goodIn_of _ (by decide +kernel)) ggX4_advance_X4_isBlank
set_option maxRecDepth 20000 in
theorem ggX4_advance_X4_isLetter : GoodIn wsX4_advance wsX4_isLetter := goodIn_r _ [16] (by decide +kernel) (by decide +kernel)
set_option maxRecDepth 20000 in
theorem gX4_advance_X4_isLetter : GoodIn wsX4_advance (va_wsS RX4 147 yX4_isLetter wsX4_isLetter) := goodIn_app (goodIn_of _ (by decide +kernel)) ggX4_advance_X4_isLetter
set_option maxRecDepth 20000 in
theorem ggX4_advance_X4_isDigit : GoodIn wsX4_advance wsX4_isDigit := goodIn_r _ [19] (by decide +kernel) (by decide +kernel)
set_option maxRecDepth 20000 in
theorem gX4_advance_X4_isDigit : GoodIn wsX4_advance (va_wsS RX4 150 yX4_isDigit wsX4_isDigit) := goodIn_app (goodIn_of _ (by decide +kernel)) ggX4_advance_X4_isDigit
set_option maxRecDepth 20000 in
theorem ggX4_advance_X4_scanDigits : GoodIn wsX4_advance wsX4_scanDigits := goodIn_r _ [23, 24, 1, 3, 25, 26, 27, 28, 29, 5, 6, 7, 8, 9, 10, 17, 18, 19, 30, 31, 32, 33, 34, 35, 36, 37, 38, 39, 40] (by decide +kernel) (by decide +kernel)
set_option maxRecDepth 20000 in
theorem gX4_advance_X4_scanDigits : GoodIn wsX4_advance (wsV RX4 153 RX4 yX4_scanDigits wsX4_scanDigits) := goodIn_app (goodIn_of _ (by decide +kernel)) ggX4_advance_X4_scanDigits
set_option maxRecDepth 20000 in
theorem ggX4_scanDigits_X4_signAt : GoodIn wsX4_scanDigits wsX4_signAt := goodIn_r _ [13, 3, 14, 18, 19, 20, 21, 22, 23, 24, 25, 26, 27, 28] (by decide +kernel) (by decide +kernel)
set_option maxRecDepth 20000 in
theorem gX4_scanDigits_X4_signAt : GoodIn wsX4_scanDigits (wsV RX4 135 RX4 yX4_signAt wsX4_signAt) := goodIn_app (goodIn_of _ (by decide +kernel)) ggX4_scanDigits_X4_signAt
set_option maxRecDepth 20000 in
theorem ggX4_scanDigits_X4_isDigit : GoodIn wsX4_scanDigits wsX4_isDigit := goodIn_r _ [17] (by decide +kernel) (by decide +kernel)
set_option maxRecDepth 20000 in
theorem gX4_scanDigits_X4_isDigit : GoodIn wsX4_scanDigits (va_wsS RX4 150 yX4_isDigit wsX4_isDigit) := goodIn_app (goodIn_of _ (by decide +kernel)) ggX4_scanDigits_X4_isDigit
set_option maxRecDepth 20000 in
theorem ggX5_init_X5_sayNothing : GoodIn wsX5_init wsX5_sayNothing := goodIn_r _ [10, 5, 11, 12, 13, 14, 15, 16, 17, 18, 19, 20, 21, 22, 23, 24, 25, 26, 27] (by decide +kernel) (by decide +kernel)
set_option maxRecDepth 20000 in
theorem gX5_init_X5_sayNothing : GoodIn wsX5_init (wsV RX5 15 RX5 yX5_sayNothing wsX5_sayNothing) := goodIn_app (goodIn_of _ (by decide +kernel)) ggX5_init_X5_sayNothing
set_option maxRecDepth 20000 in
theorem ggX6_wearOut_X6_has : GoodIn wsX6_wearOut wsX6_has := goodIn_r _ [7, 8, 9, 10, 11, 12, 13] (by decide +kernel) (by decide +kernel)
set_option maxRecDepth 20000 in
theorem gX6_wearOut_X6_has : GoodIn wsX6_wearOut (wsV RX6 29 RX6 yX6_has wsX6_has) := goodIn_app (goodIn_of _ (by decide +kernel)) ggX6_wearOut_X6_has
set_option maxRecDepth 20000 in
theorem ggX7_init_X4_init : GoodIn wsX7_init wsX4_init := goodIn_r _ [34, 35, 2, 3, 36, 9, 10, 37, 38, 39, 40, 41, 42, 43, 44, 45, 46, 47, 48, 49, 50, 51, 52, 53, 54, 55, 56, 57, 58, 59, 119, 120, 121, 122, 123, 124, 125, 126, 127, 100, 101, 102, 103, 104, 105, 106, 107, 108, 109, 110] (by decide +kernel) (by decide +kernel)
set_option maxRecDepth 20000 in
theorem gX7_init_X4_init_n9 : GoodIn wsX7_init (wsX4_init) := ggX7_init_X4_init
set_option maxRecDepth 20000 in
theorem ggX7_init_X5_init : GoodIn wsX7_init wsX5_init := goodIn_r _ [44, 45, 2, 3, 46, 47, 48, 49, 50, 10, 51, 52, 53, 54, 55, 56, 57, 58, 59, 119, 120, 121, 122, 123, 124, 125, 126, 127] (by decide +kernel) (by decide +kernel)
set_option maxRecDepth 20000 in
theorem gX7_init_X5_init : GoodIn wsX7_init (wsX5_init) := ggX7_init_X5_init
set_option maxRecDepth 20000 in
theorem ggX7_init_X3_init : GoodIn wsX7_init wsX3_init := goodIn_r _ [62, 63, 2, 3, 46, 64, 65, 128, 129, 130, 131] (by decide +kernel) (by decide +kernel)
set_option maxRecDepth 20000 in
theorem gX7_init_X3_init_n25 : GoodIn wsX7_init (wsX3_init) := ggX7_init_X3_init
set_option maxRecDepth 20000 in
theorem ggX7_init_X1_init : GoodIn wsX7_init wsX1_init := goodIn_r _ [67, 68, 2, 3, 46, 69, 70, 71, 72, 73, 74, 132, 133, 134, 135, 136, 137, 138] (by decide +kernel) (by decide +kernel)
set_option maxRecDepth 20000 in
theorem gX7_init_X1_init_n32 : GoodIn wsX7_init (wsX1_init) := ggX7_init_X1_init
set_option maxRecDepth 20000 in
theorem ggX7_init_X6_init : GoodIn wsX7_init wsX6_init := goodIn_r _ [76, 77, 2, 3, 46, 78, 79, 80, 81, 82, 139, 140, 141, 142, 143] (by decide +kernel) (by decide +kernel)
set_option maxRecDepth 20000 in
theorem gX7_init_X6_init_n39 : GoodIn wsX7_init (wsX6_init) := ggX7_init_X6_init
set_option maxRecDepth 20000 in
theorem ggX7_init_X2_init : GoodIn wsX7_init wsX2_init := goodIn_r _ [84, 85, 2, 3, 46, 86, 87, 88, 89, 90, 144, 145, 146, 147, 148, 149] (by decide +kernel) (by decide +kernel)
set_option maxRecDepth 20000 in
theorem gX7_init_X2_init_n46 : GoodIn wsX7_init (wsX2_init) := ggX7_init_X2_init
set_option maxRecDepth 20000 in
theorem ggX7_init_X0_init : GoodIn wsX7_init wsX0_init := goodIn_r _ [92, 93, 2, 3, 46, 94, 95, 96, 97, 98, 99, 150, 151, 152, 153, 154, 155, 156, 157, 158] (by decide +kernel) (by decide +kernel)
set_option maxRecDepth 20000 in
theorem gX7_init_X0_init_n53 : GoodIn wsX7_init (wsX0_init) := ggX7_init_X0_init
set_option maxRecDepth 20000 in
theorem ggX7_feed_X4_append : GoodIn wsX7_feed wsX4_append := goodIn_r _ [7, 8, 9, 18, 19, 20, 21, 22, 23, 24, 25, 26, 27, 28] (by decide +kernel) (by decide +kernel)
set_option maxRecDepth 20000 in
theorem gX7_feed_X4_append : GoodIn wsX7_feed (wsV RX7 65 RX4 yX4_append wsX4_append) := goodIn_app (goodIn_of _ (by decide +kernel)) ggX7_feed_X4_append
set_option maxRecDepth 20000 in
theorem ggX7_statutes_X4_read : GoodIn wsX7_statutes wsX4_read := goodIn_r _ [9, 10, 11, 12, 13, 14, 15, 16, 17, 18, 19, 20, 21, 22, 23, 24, 25, 26, 27, 28, 29, 30, 31, 32, 33, 34, 35, 36, 37, 38, 8, 39, 40, 41, 42, 43, 44, 45, 46, 47, 48, 49, 50, 51, 52, 53, 54, 55, 56, 57, 58, 59, 60, 61, 62, 63, 64, 65, 66, 67, 68, 69, 70, 71, 72, 73, 74, 75, 76, 77, 78, 79, 80, 81, 82, 83, 84, 85, 86, 87, 88, 89, 90, 91, 92, 93, 94, 95, 96, 97, 98, 99, 100, 101, 102, 103, 104, 105, 106, 107, 108, 109, 110, 111, 112, 113, 114, 115, 116, 117, 118, 119, 120, 121, 122, 123, 124, 125, 126, 127, 128, 129, 130, 131, 132, 133, 134, 135, 136, 137, 138, 139, 140, 141, 142, 143, 144, 145, 146, 147, 148, 149, 150, 151, 152, 153, 154, 155, 156, 157, 174, 175, 176, 177, 178, 179, 180, 181, 182, 183, 184, 185, 186, 187, 188, 189, 190, 191, 192, 193] (by decide +kernel) (by decide +kernel)
set_option maxRecDepth 20000 in
theorem gX7_statutes_X4_read : GoodIn wsX7_statutes (wsV RX7 69 RX4 yX4_read wsX4_read) := goodIn_app (goodIn_of _ (by decide +kernel)) ggX7_statutes_X4_read
set_option maxRecDepth 20000 in
theorem ggX7_statutes_X5_takeOver : GoodIn wsX7_statutes wsX5_takeOver := goodIn_r _ [161, 27, 162, 163, 164, 165, 28, 29, 30, 31, 32, 33, 34, 35, 185, 186, 187, 188, 189, 190, 191, 192, 193] (by decide +kernel) (by decide +kernel)
set_option maxRecDepth 20000 in
theorem gX7_statutes_X5_takeOver : GoodIn wsX7_statutes (wsV RX7 76 RX5 yX5_takeOver wsX5_takeOver) := goodIn_app (goodIn_of _ (by decide +kernel)) ggX7_statutes_X5_takeOver
set_option maxRecDepth 20000 in
theorem ggX7_giver_X3_add : GoodIn wsX7_giver wsX3_add := goodIn_r _ [6, 7, 8, 9, 18, 19, 20, 21] (by decide +kernel) (by decide +kernel)
set_option maxRecDepth 20000 in
theorem gX7_giver_X3_add : GoodIn wsX7_giver (wsV RX7 86 RX3 yX3_add wsX3_add) := goodIn_app (goodIn_of _ (by decide +kernel)) ggX7_giver_X3_add
set_option maxRecDepth 20000 in
theorem ggX7_gift_X3_has : GoodIn wsX7_gift wsX3_has := goodIn_r _ [6, 7, 23, 24, 25, 26] (by decide +kernel) (by decide +kernel)
set_option maxRecDepth 20000 in
theorem gX7_gift_X3_has : GoodIn wsX7_gift (wsV RX7 90 RX3 yX3_has wsX3_has) := goodIn_app (goodIn_of _ (by decide +kernel)) ggX7_gift_X3_has
set_option maxRecDepth 20000 in
theorem ggX7_gift_X3_take : GoodIn wsX7_gift wsX3_take := goodIn_r _ [11, 12, 13, 14, 3, 4, 5, 6, 7, 23, 24, 25, 26] (by decide +kernel) (by decide +kernel)
set_option maxRecDepth 20000 in
theorem gX7_gift_X3_take : GoodIn wsX7_gift (wsV RX7 94 RX3 yX3_take wsX3_take) := goodIn_app (goodIn_of _ (by decide +kernel)) ggX7_gift_X3_take
set_option maxRecDepth 20000 in
theorem ggX7_support_X3_has : GoodIn wsX7_support wsX3_has := goodIn_r _ [8, 9, 24, 25, 26, 27] (by decide +kernel) (by decide +kernel)
set_option maxRecDepth 20000 in
theorem gX7_support_X3_has : GoodIn wsX7_support (wsV RX7 90 RX3 yX3_has wsX3_has) := goodIn_app (goodIn_of _ (by decide +kernel)) ggX7_support_X3_has
set_option maxRecDepth 20000 in
theorem ggX7_support_X1_has : GoodIn wsX7_support wsX1_has := goodIn_r _ [14, 15, 28, 29, 30, 31, 32, 33, 34] (by decide +kernel) (by decide +kernel)
set_option maxRecDepth 20000 in
theorem gX7_support_X1_has : GoodIn wsX7_support (wsV RX7 98 RX1 yX1_has wsX1_has) := goodIn_app (goodIn_of _ (by decide +kernel)) ggX7_support_X1_has
set_option maxRecDepth 20000 in
theorem ggX7_child_X1_add : GoodIn wsX7_child wsX1_add := goodIn_r _ [6, 7, 8, 9, 10, 11, 12, 13, 14, 15, 5, 16, 25, 26, 27, 28, 29, 30, 31] (by decide +kernel) (by decide +kernel)
set_option maxRecDepth 20000 in
theorem gX7_child_X1_add : GoodIn wsX7_child (wsV RX7 103 RX1 yX1_add wsX1_add) := goodIn_app (goodIn_of _ (by decide +kernel)) ggX7_child_X1_add
set_option maxRecDepth 20000 in
theorem ggX7_fill_X1_in : GoodIn wsX7_fill wsX1_in := goodIn_r _ [9, 10, 11, 91, 92, 93, 94, 95, 96, 97] (by decide +kernel) (by decide +kernel)
set_option maxRecDepth 20000 in
theorem gX7_fill_X1_in : GoodIn wsX7_fill (wsV RX7 106 RX1 yX1_in wsX1_in) := goodIn_app (goodIn_of _ (by decide +kernel)) ggX7_fill_X1_in
set_option maxRecDepth 20000 in
theorem ggX7_fill_X5_wayNext : GoodIn wsX7_fill wsX5_wayNext := goodIn_r _ [16, 17, 18, 82, 83, 84, 85, 86, 87, 88, 89, 90] (by decide +kernel) (by decide +kernel)
set_option maxRecDepth 20000 in
theorem gX7_fill_X5_wayNext : GoodIn wsX7_fill (wsV RX7 112 RX5 yX5_wayNext wsX5_wayNext) := goodIn_app (goodIn_of _ (by decide +kernel)) ggX7_fill_X5_wayNext
set_option maxRecDepth 20000 in
theorem ggX7_fill_X7_chosenBy : GoodIn wsX7_fill wsX7_chosenBy := goodIn_r _ [23, 24, 25, 26, 22, 27, 28, 29, 30, 31, 32, 33, 34, 35, 36, 37, 38, 39, 40, 41, 42, 43, 44, 45, 1, 4, 46, 2, 47, 48, 49, 50, 51, 8, 52, 10, 53, 54, 55, 56, 57, 58, 59, 60, 61, 62, 63, 64, 65, 66, 67, 68, 74, 75, 76, 77, 78, 79, 80, 81, 98, 99, 100, 101, 91, 92, 93, 94, 95, 96, 97, 82, 83, 84, 85, 86, 87, 88, 89, 90] (by decide +kernel) (by decide +kernel)
set_option maxRecDepth 20000 in
theorem gX7_fill_X7_chosenBy : GoodIn wsX7_fill (wsV RX7 115 RX7 yX7_chosenBy wsX7_chosenBy) := goodIn_app (goodIn_of _ (by decide +kernel)) ggX7_fill_X7_chosenBy
set_option maxRecDepth 20000 in
theorem ggX7_fill_X1_has : GoodIn wsX7_fill wsX1_has := goodIn_r _ [52, 10, 91, 92, 93, 94, 95, 96, 97] (by decide +kernel) (by decide +kernel)
set_option maxRecDepth 20000 in
theorem gX7_fill_X1_has : GoodIn wsX7_fill (wsV RX7 98 RX1 yX1_has wsX1_has) := goodIn_app (goodIn_of _ (by decide +kernel)) ggX7_fill_X1_has
set_option maxRecDepth 20000 in
theorem ggX7_fill_X5_goOn : GoodIn wsX7_fill wsX5_goOn := goodIn_r _ [72, 17, 73, 82, 83, 84, 85, 86, 87, 88, 89, 90] (by decide +kernel) (by decide +kernel)
set_option maxRecDepth 20000 in
theorem gX7_fill_X5_goOn : GoodIn wsX7_fill (wsV RX7 121 RX5 yX5_goOn wsX5_goOn) := goodIn_app (goodIn_of _ (by decide +kernel)) ggX7_fill_X5_goOn
set_option maxRecDepth 20000 in
theorem ggX7_chosenBy_X7_chosenByTurn : GoodIn wsX7_chosenBy wsX7_chosenByTurn := goodIn_r _ [5, 6, 7, 8, 9, 10, 11, 12, 13, 14, 15, 16, 17, 18, 19, 20, 21, 22, 4, 23, 24, 25, 26, 27, 28, 29, 30, 31, 32, 33, 34, 35, 52, 53, 54, 55, 56, 57, 58, 59, 60, 61, 62, 63, 64, 65, 66, 67, 68, 69, 70, 71, 72, 73, 74, 75, 76, 77, 78, 79] (by decide +kernel) (by decide +kernel)
set_option maxRecDepth 20000 in
theorem gX7_chosenBy_X7_chosenByTurn : GoodIn wsX7_chosenBy (wsV RX7 124 RX7 yX7_chosenByTurn wsX7_chosenByTurn) := goodIn_app (goodIn_of _ (by decide +kernel)) ggX7_chosenBy_X7_chosenByTurn
set_option maxRecDepth 20000 in
theorem ggX7_chosenBy_X7_chosenByVote : GoodIn wsX7_chosenBy wsX7_chosenByVote := goodIn_r _ [39, 24, 40, 6, 27, 41, 42, 20, 21, 22, 4, 23, 25, 26, 28, 29, 30, 31, 32, 33, 34, 35, 43, 44, 45, 12, 46, 19, 14, 47, 52, 53, 54, 55, 56, 57, 58, 59, 64, 65, 66, 67, 68, 69, 70, 71, 72, 73, 74, 75, 76, 77, 78, 79, 60, 61, 62, 63] (by decide +kernel) (by decide +kernel)
set_option maxRecDepth 20000 in
theorem gX7_chosenBy_X7_chosenByVote : GoodIn wsX7_chosenBy (wsV RX7 127 RX7 yX7_chosenByVote wsX7_chosenByVote) := goodIn_app (goodIn_of _ (by decide +kernel)) ggX7_chosenBy_X7_chosenByVote
set_option maxRecDepth 20000 in
theorem ggX7_chosenBy_X7_chosenByNeed : GoodIn wsX7_chosenBy wsX7_chosenByNeed := goodIn_r _ [51, 24, 40, 42, 20, 21, 22, 4, 23, 25, 26, 27, 28, 29, 30, 31, 32, 33, 34, 35, 52, 53, 54, 55, 56, 57, 58, 59, 64, 65, 66, 67, 68, 69, 70, 71, 72, 73, 74, 75, 76, 77, 78, 79] (by decide +kernel) (by decide +kernel)
set_option maxRecDepth 20000 in
theorem gX7_chosenBy_X7_chosenByNeed : GoodIn wsX7_chosenBy (wsV RX7 130 RX7 yX7_chosenByNeed wsX7_chosenByNeed) := goodIn_app (goodIn_of _ (by decide +kernel)) ggX7_chosenBy_X7_chosenByNeed
set_option maxRecDepth 20000 in
theorem ggX7_chosenByTurn_X3_childOf : GoodIn wsX7_chosenByTurn wsX3_childOf := goodIn_r _ [8, 9, 10, 11, 12, 7, 13, 14, 40, 41, 42, 43] (by decide +kernel) (by decide +kernel)
set_option maxRecDepth 20000 in
theorem gX7_chosenByTurn_X3_childOf : GoodIn wsX7_chosenByTurn (wsV RX7 139 RX3 yX3_childOf wsX3_childOf) := goodIn_app (goodIn_of _ (by decide +kernel)) ggX7_chosenByTurn_X3_childOf
set_option maxRecDepth 20000 in
theorem ggX7_chosenByTurn_X7_mayCome : GoodIn wsX7_chosenByTurn wsX7_mayCome := goodIn_r _ [19, 20, 21, 22, 23, 24, 25, 26, 27, 28, 29, 30, 31, 32, 33, 34, 35, 36, 37, 38, 39, 44, 45, 46, 47, 48, 49, 50, 51, 52, 53, 54, 55, 56, 57, 58, 59] (by decide +kernel) (by decide +kernel)
set_option maxRecDepth 20000 in
theorem gX7_chosenByTurn_X7_mayCome : GoodIn wsX7_chosenByTurn (wsV RX7 142 RX7 yX7_mayCome wsX7_mayCome) := goodIn_app (goodIn_of _ (by decide +kernel)) ggX7_chosenByTurn_X7_mayCome
set_option maxRecDepth 20000 in
theorem ggX7_chosenByVote_X7_mayCome : GoodIn wsX7_chosenByVote wsX7_mayCome := goodIn_r _ [11, 1, 12, 13, 4, 14, 15, 16, 17, 18, 19, 20, 21, 30, 31, 32, 33, 34, 35, 36, 37, 38, 39, 40, 41, 42, 43, 44, 45, 46, 47, 48, 49, 50, 51, 52, 53] (by decide +kernel) (by decide +kernel)
set_option maxRecDepth 20000 in
theorem gX7_chosenByVote_X7_mayCome : GoodIn wsX7_chosenByVote (wsV RX7 142 RX7 yX7_mayCome wsX7_mayCome) := goodIn_app (goodIn_of _ (by decide +kernel)) ggX7_chosenByVote_X7_mayCome
set_option maxRecDepth 20000 in
theorem ggX7_chosenByVote_X3_votesFor : GoodIn wsX7_chosenByVote wsX3_votesFor := goodIn_r _ [26, 27, 28, 29, 54, 55, 56, 57] (by decide +kernel) (by decide +kernel)
set_option maxRecDepth 20000 in
theorem gX7_chosenByVote_X3_votesFor : GoodIn wsX7_chosenByVote (wsV RX7 149 RX3 yX3_votesFor wsX3_votesFor) := goodIn_app (goodIn_of _ (by decide +kernel)) ggX7_chosenByVote_X3_votesFor
set_option maxRecDepth 20000 in
theorem ggX7_chosenByNeed_X7_mayCome : GoodIn wsX7_chosenByNeed wsX7_mayCome := goodIn_r _ [8, 1, 9, 10, 11, 12, 13, 14, 15, 16, 17, 18, 19, 20, 21, 22, 23, 24, 25, 26, 27, 28, 29, 30, 31, 32, 33, 34, 35, 36, 37, 38, 39, 40, 41, 42, 43] (by decide +kernel) (by decide +kernel)
set_option maxRecDepth 20000 in
theorem gX7_chosenByNeed_X7_mayCome : GoodIn wsX7_chosenByNeed (wsV RX7 142 RX7 yX7_mayCome wsX7_mayCome) := goodIn_app (goodIn_of _ (by decide +kernel)) ggX7_chosenByNeed_X7_mayCome
set_option maxRecDepth 20000 in
theorem ggX7_mayCome_X1_has : GoodIn wsX7_mayCome wsX1_has := goodIn_r _ [11, 12, 21, 22, 23, 24, 25, 26, 27] (by decide +kernel) (by decide +kernel)
set_option maxRecDepth 20000 in
theorem gX7_mayCome_X1_has : GoodIn wsX7_mayCome (wsV RX7 98 RX1 yX1_has wsX1_has) := goodIn_app (goodIn_of _ (by decide +kernel)) ggX7_mayCome_X1_has
set_option maxRecDepth 20000 in
theorem ggX7_year_X1_grow : GoodIn wsX7_year wsX1_grow := goodIn_r _ [16, 17, 18, 19, 20, 21, 22, 23, 24, 25, 26, 15, 27, 28, 57, 58, 59, 60, 61, 62, 63] (by decide +kernel) (by decide +kernel)
set_option maxRecDepth 20000 in
theorem gX7_year_X1_grow : GoodIn wsX7_year (wsV RX7 164 RX1 yX1_grow wsX1_grow) := goodIn_app (goodIn_of _ (by decide +kernel)) ggX7_year_X1_grow
set_option maxRecDepth 20000 in
theorem ggX7_year_X7_handIn : GoodIn wsX7_year wsX7_handIn := goodIn_r _ [33, 9, 34, 2, 8, 35, 36, 37, 38, 39, 40, 41, 25, 26, 15, 27, 28, 49, 50, 51, 52, 53, 54, 55, 56, 73, 74, 75, 76, 77, 57, 58, 59, 60, 61, 62, 63] (by decide +kernel) (by decide +kernel)
set_option maxRecDepth 20000 in
theorem gX7_year_X7_handIn : GoodIn wsX7_year (wsV RX7 170 RX7 yX7_handIn wsX7_handIn) := goodIn_app (goodIn_of _ (by decide +kernel)) ggX7_year_X7_handIn
set_option maxRecDepth 20000 in
theorem ggX7_year_X6_wearOut : GoodIn wsX7_year wsX6_wearOut := goodIn_r _ [45, 46, 47, 48, 36, 37, 38, 39, 40, 73, 74, 75, 76, 77] (by decide +kernel) (by decide +kernel)
set_option maxRecDepth 20000 in
theorem gX7_year_X6_wearOut : GoodIn wsX7_year (wsV RX7 177 RX6 yX6_wearOut wsX6_wearOut) := goodIn_app (goodIn_of _ (by decide +kernel)) ggX7_year_X6_wearOut
set_option maxRecDepth 20000 in
theorem ggX7_handIn_X6_has : GoodIn wsX7_handIn wsX6_has := goodIn_r _ [9, 10, 25, 26, 27, 28, 29] (by decide +kernel) (by decide +kernel)
set_option maxRecDepth 20000 in
theorem gX7_handIn_X6_has : GoodIn wsX7_handIn (wsV RX7 181 RX6 yX6_has wsX6_has) := goodIn_app (goodIn_of _ (by decide +kernel)) ggX7_handIn_X6_has
set_option maxRecDepth 20000 in
theorem ggX7_handIn_X1_has : GoodIn wsX7_handIn wsX1_has := goodIn_r _ [15, 16, 30, 31, 32, 33, 34, 35, 36] (by decide +kernel) (by decide +kernel)
set_option maxRecDepth 20000 in
theorem gX7_handIn_X1_has : GoodIn wsX7_handIn (wsV RX7 98 RX1 yX1_has wsX1_has) := goodIn_app (goodIn_of _ (by decide +kernel)) ggX7_handIn_X1_has
set_option maxRecDepth 20000 in
theorem ggX7_handOut_X6_has : GoodIn wsX7_handOut wsX6_has := goodIn_r _ [9, 10, 25, 26, 27, 28, 29] (by decide +kernel) (by decide +kernel)
set_option maxRecDepth 20000 in
theorem gX7_handOut_X6_has : GoodIn wsX7_handOut (wsV RX7 181 RX6 yX6_has wsX6_has) := goodIn_app (goodIn_of _ (by decide +kernel)) ggX7_handOut_X6_has
set_option maxRecDepth 20000 in
theorem ggX7_handOut_X1_has : GoodIn wsX7_handOut wsX1_has := goodIn_r _ [15, 16, 30, 31, 32, 33, 34, 35, 36] (by decide +kernel) (by decide +kernel)
set_option maxRecDepth 20000 in
theorem gX7_handOut_X1_has : GoodIn wsX7_handOut (wsV RX7 98 RX1 yX1_has wsX1_has) := goodIn_app (goodIn_of _ (by decide +kernel)) ggX7_handOut_X1_has
set_option maxRecDepth 20000 in
theorem ggX7_feast_X2_plan : GoodIn wsX7_feast wsX2_plan := goodIn_r _ [15, 16, 17, 18, 14, 19, 20, 21, 22, 23, 24, 25, 26, 27, 28, 29, 30, 31, 32, 33, 34, 35, 36, 37, 38, 39, 40, 41, 42, 43, 44, 45, 46, 47, 48, 49, 50, 51, 52, 53, 54, 55, 56, 57, 58, 59, 60, 61, 62, 63, 64, 65, 66, 67, 68, 69, 70, 71, 72, 73, 74, 75, 76, 77, 78, 132, 133, 134, 135, 136, 137, 138, 139, 140, 141, 142, 143, 144, 127, 128, 129, 130, 131] (by decide +kernel) (by decide +kernel)
set_option maxRecDepth 20000 in
theorem gX7_feast_X2_plan : GoodIn wsX7_feast (wsV RX7 188 RX2 yX2_plan wsX2_plan) := goodIn_app (goodIn_of _ (by decide +kernel)) ggX7_feast_X2_plan
set_option maxRecDepth 20000 in
theorem ggX7_feast_X2_newCoats : GoodIn wsX7_feast wsX2_newCoats := goodIn_r _ [82, 20, 43, 59, 60, 61, 62, 63, 64, 65, 132, 133, 134, 135, 136, 137] (by decide +kernel) (by decide +kernel)
set_option maxRecDepth 20000 in
theorem gX7_feast_X2_newCoats : GoodIn wsX7_feast (wsV RX7 192 RX2 yX2_newCoats wsX2_newCoats) := goodIn_app (goodIn_of _ (by decide +kernel)) ggX7_feast_X2_newCoats
set_option maxRecDepth 20000 in
theorem ggX7_feast_X7_handIn : GoodIn wsX7_feast wsX7_handIn := goodIn_r _ [87, 3, 88, 2, 89, 90, 91, 92, 34, 93, 36, 94, 95, 96, 97, 98, 99, 110, 111, 112, 113, 114, 115, 116, 117, 127, 128, 129, 130, 131, 138, 139, 140, 141, 142, 143, 144] (by decide +kernel) (by decide +kernel)
set_option maxRecDepth 20000 in
theorem gX7_feast_X7_handIn : GoodIn wsX7_feast (wsV RX7 170 RX7 yX7_handIn wsX7_handIn) := goodIn_app (goodIn_of _ (by decide +kernel)) ggX7_feast_X7_handIn
set_option maxRecDepth 20000 in
theorem ggX7_feast_X6_cut : GoodIn wsX7_feast wsX6_cut := goodIn_r _ [103, 36, 38, 104, 37, 105, 127, 128, 129, 130, 131] (by decide +kernel) (by decide +kernel)
set_option maxRecDepth 20000 in
theorem gX7_feast_X6_cut : GoodIn wsX7_feast (wsV RX7 207 RX6 yX6_cut wsX6_cut) := goodIn_app (goodIn_of _ (by decide +kernel)) ggX7_feast_X6_cut
set_option maxRecDepth 20000 in
theorem ggX7_feast_X7_handOut : GoodIn wsX7_feast wsX7_handOut := goodIn_r _ [109, 3, 2, 88, 89, 90, 91, 92, 34, 93, 36, 94, 95, 96, 97, 98, 99, 110, 111, 112, 113, 114, 115, 116, 117, 127, 128, 129, 130, 131, 138, 139, 140, 141, 142, 143, 144] (by decide +kernel) (by decide +kernel)
set_option maxRecDepth 20000 in
theorem gX7_feast_X7_handOut : GoodIn wsX7_feast (wsV RX7 210 RX7 yX7_handOut wsX7_handOut) := goodIn_app (goodIn_of _ (by decide +kernel)) ggX7_feast_X7_handOut
set_option maxRecDepth 20000 in
theorem ggX7_legacy_X0_add : GoodIn wsX7_legacy wsX0_add := goodIn_r _ [6, 7, 8, 9, 18, 19, 20, 21, 22, 23, 24, 25, 26] (by decide +kernel) (by decide +kernel)
set_option maxRecDepth 20000 in
theorem gX7_legacy_X0_add : GoodIn wsX7_legacy (wsV RX7 214 RX0 yX0_add wsX0_add) := goodIn_app (goodIn_of _ (by decide +kernel)) ggX7_legacy_X0_add
set_option maxRecDepth 20000 in
theorem ggX7_owed_X0_plan : GoodIn wsX7_owed wsX0_plan := goodIn_r _ [11, 12, 13, 14, 10, 15, 16, 17, 18, 19, 20, 21, 22, 23, 24, 25, 26, 27, 28, 29, 30, 31, 32, 33, 34, 35, 36, 37, 38, 39, 40, 41, 42, 43, 44, 53, 54, 55, 56, 57, 58, 59, 60, 61] (by decide +kernel) (by decide +kernel)
set_option maxRecDepth 20000 in
theorem gX7_owed_X0_plan : GoodIn wsX7_owed (wsV RX7 217 RX0 yX0_plan wsX0_plan) := goodIn_app (goodIn_of _ (by decide +kernel)) ggX7_owed_X0_plan
set_option maxRecDepth 20000 in
theorem ggX7_pay_X0_plan : GoodIn wsX7_pay wsX0_plan := goodIn_r _ [6, 7, 8, 9, 5, 10, 11, 12, 13, 14, 15, 16, 17, 18, 19, 20, 21, 22, 23, 24, 25, 26, 27, 28, 29, 30, 31, 32, 33, 34, 35, 36, 37, 38, 39, 52, 53, 54, 55, 56, 57, 58, 59, 60] (by decide +kernel) (by decide +kernel)
set_option maxRecDepth 20000 in
theorem gX7_pay_X0_plan : GoodIn wsX7_pay (wsV RX7 217 RX0 yX0_plan wsX0_plan) := goodIn_app (goodIn_of _ (by decide +kernel)) ggX7_pay_X0_plan
set_option maxRecDepth 20000 in
theorem ggX7_pay_X0_payPlanned : GoodIn wsX7_pay wsX0_payPlanned := goodIn_r _ [43, 11, 16, 12, 26, 31, 52, 53, 54, 55, 56, 57, 58, 59, 60] (by decide +kernel) (by decide +kernel)
set_option maxRecDepth 20000 in
theorem gX7_pay_X0_payPlanned : GoodIn wsX7_pay (wsV RX7 232 RX0 yX0_payPlanned wsX0_payPlanned) := goodIn_app (goodIn_of _ (by decide +kernel)) ggX7_pay_X0_payPlanned
set_option maxRecDepth 20000 in
theorem ggX7_look_X1_has : GoodIn wsX7_look wsX1_has := goodIn_r _ [18, 19, 36, 37, 38, 39, 40, 41, 42] (by decide +kernel) (by decide +kernel)
set_option maxRecDepth 20000 in
theorem gX7_look_X1_has : GoodIn wsX7_look (wsV RX7 98 RX1 yX1_has wsX1_has) := goodIn_app (goodIn_of _ (by decide +kernel)) ggX7_look_X1_has
set_option maxRecDepth 20000 in
theorem ggX7_look_X3_votesFor : GoodIn wsX7_look wsX3_votesFor := goodIn_r _ [24, 25, 26, 27, 52, 53, 54, 55] (by decide +kernel) (by decide +kernel)
set_option maxRecDepth 20000 in
theorem gX7_look_X3_votesFor : GoodIn wsX7_look (wsV RX7 149 RX3 yX3_votesFor wsX3_votesFor) := goodIn_app (goodIn_of _ (by decide +kernel)) ggX7_look_X3_votesFor
set_option maxRecDepth 20000 in
theorem ggX7_coat_X6_has : GoodIn wsX7_coat wsX6_has := goodIn_r _ [10, 11, 20, 21, 22, 23, 24] (by decide +kernel) (by decide +kernel)
set_option maxRecDepth 20000 in
theorem gX7_coat_X6_has : GoodIn wsX7_coat (wsV RX7 181 RX6 yX6_has wsX6_has) := goodIn_app (goodIn_of _ (by decide +kernel)) ggX7_coat_X6_has
set_option maxRecDepth 20000 in
theorem ggX7_count_X1_in : GoodIn wsX7_count wsX1_in := goodIn_r _ [16, 17, 18, 38, 39, 40, 41, 42, 43, 44] (by decide +kernel) (by decide +kernel)
set_option maxRecDepth 20000 in
theorem gX7_count_X1_in : GoodIn wsX7_count (wsV RX7 106 RX1 yX1_in wsX1_in) := goodIn_app (goodIn_of _ (by decide +kernel)) ggX7_count_X1_in
set_option maxRecDepth 20000 in
theorem ggX7_count_X5_wayNext : GoodIn wsX7_count wsX5_wayNext := goodIn_r _ [23, 24, 25, 59, 60, 61, 62, 63, 64, 65, 66, 67] (by decide +kernel) (by decide +kernel)
set_option maxRecDepth 20000 in
theorem gX7_count_X5_wayNext : GoodIn wsX7_count (wsV RX7 112 RX5 yX5_wayNext wsX5_wayNext) := goodIn_app (goodIn_of _ (by decide +kernel)) ggX7_count_X5_wayNext
set_option maxRecDepth 20000 in
theorem ggJ0_length_8abf5_J0_coder_7d493 : GoodIn wsJ0_length_8abf5 wsJ0_coder_7d493 := goodIn_r _ [6, 7, 8] (by decide +kernel) (by decide +kernel)
set_option maxRecDepth 20000 in
theorem gJ0_length_8abf5_J0_coder_7d493 : GoodIn wsJ0_length_8abf5 (wsV RJ0 335 RJ0 yJ0_coder_7d493 wsJ0_coder_7d493) := goodIn_app (goodIn_of _ (by decide +kernel)) ggJ0_length_8abf5_J0_coder_7d493
set_option maxRecDepth 20000 in
theorem ggJ0_charAt_5068e_J0_isLatin1_aae02 : GoodIn wsJ0_charAt_5068e wsJ0_isLatin1_aae02 := goodIn_r _ [6, 7, 8] (by decide +kernel) (by decide +kernel)
set_option maxRecDepth 20000 in
theorem gJ0_charAt_5068e_J0_isLatin1_aae02 : GoodIn wsJ0_charAt_5068e (wsV RJ0 492 RJ0 yJ0_isLatin1_aae02 wsJ0_isLatin1_aae02) := goodIn_app (goodIn_of _ (by decide +kernel)) ggJ0_charAt_5068e_J0_isLatin1_aae02
set_option maxRecDepth 20000 in
theorem ggJ0_charAt_5068e_J1_charAt_3b067 : GoodIn wsJ0_charAt_5068e wsJ1_charAt_3b067 := goodIn_r _ [12, 13, 14, 5, 15, 16, 17, 18, 19, 20] (by decide +kernel) (by decide +kernel)
set_option maxRecDepth 20000 in
theorem gJ0_charAt_5068e_J1_charAt_3b067 : GoodIn wsJ0_charAt_5068e (va_wsS RJ0 495 yJ1_charAt_3b067 wsJ1_charAt_3b067) := goodIn_app (goodIn_of _ (by decide +kernel)) ggJ0_charAt_5068e_J1_charAt_3b067
set_option maxRecDepth 20000 in
theorem ggJ0_charAt_5068e_J2_charAt_3b067 : GoodIn wsJ0_charAt_5068e wsJ2_charAt_3b067 := goodIn_r _ [24, 25, 26, 23, 27, 28, 29, 30, 31, 14, 5, 15, 16, 17, 18, 19, 20, 32, 33, 34, 35, 36, 37] (by decide +kernel) (by decide +kernel)
set_option maxRecDepth 20000 in
theorem gJ0_charAt_5068e_J2_charAt_3b067 : GoodIn wsJ0_charAt_5068e (va_wsS RJ0 498 yJ2_charAt_3b067 wsJ2_charAt_3b067) := goodIn_app (goodIn_of _ (by decide +kernel)) ggJ0_charAt_5068e_J2_charAt_3b067
set_option maxRecDepth 20000 in
theorem ggJ0_checkIndex_df160_J3_checkIndex_8e157 : GoodIn wsJ0_checkIndex_df160 wsJ3_checkIndex_8e157 := goodIn_r _ [5] (by decide +kernel) (by decide +kernel)
set_option maxRecDepth 20000 in
theorem gJ0_checkIndex_df160_J3_checkIndex_8e157 : GoodIn wsJ0_checkIndex_df160 (va_wsS RJ0 1059 yJ3_checkIndex_8e157 wsJ3_checkIndex_8e157) := goodIn_app (goodIn_of _ (by decide +kernel)) ggJ0_checkIndex_df160_J3_checkIndex_8e157
set_option maxRecDepth 20000 in
theorem ggJ1_charAt_3b067_J0_checkIndex_df160 : GoodIn wsJ1_charAt_3b067 wsJ0_checkIndex_df160 := goodIn_r _ [4, 5, 6, 7, 8, 9] (by decide +kernel) (by decide +kernel)
set_option maxRecDepth 20000 in
theorem gJ1_charAt_3b067_J0_checkIndex_df160 : GoodIn wsJ1_charAt_3b067 (va_wsS RJ1 9 yJ0_checkIndex_df160 wsJ0_checkIndex_df160) := goodIn_app (goodIn_of _ (by decide +kernel)) ggJ1_charAt_3b067_J0_checkIndex_df160
set_option maxRecDepth 20000 in
theorem ggJ2_getChar_3b067_J2_length_9d52b : GoodIn wsJ2_getChar_3b067 wsJ2_length_9d52b := goodIn_r _ [7] (by decide +kernel) (by decide +kernel)
set_option maxRecDepth 20000 in
theorem gJ2_getChar_3b067_J2_length_9d52b : GoodIn wsJ2_getChar_3b067 (va_wsS RJ2 48 yJ2_length_9d52b wsJ2_length_9d52b) := goodIn_app (goodIn_of _ (by decide +kernel)) ggJ2_getChar_3b067_J2_length_9d52b
set_option maxRecDepth 20000 in
theorem ggJ2_charAt_3b067_J2_checkIndex_2214a : GoodIn wsJ2_charAt_3b067 wsJ2_checkIndex_2214a := goodIn_r _ [4, 5, 6, 3, 7, 8, 9, 10, 11, 12, 13, 14, 15, 16] (by decide +kernel) (by decide +kernel)
set_option maxRecDepth 20000 in
theorem gJ2_charAt_3b067_J2_checkIndex_2214a : GoodIn wsJ2_charAt_3b067 (va_wsS RJ2 67 yJ2_checkIndex_2214a wsJ2_checkIndex_2214a) := goodIn_app (goodIn_of _ (by decide +kernel)) ggJ2_charAt_3b067_J2_checkIndex_2214a
set_option maxRecDepth 20000 in
theorem ggJ2_charAt_3b067_J2_getChar_3b067 : GoodIn wsJ2_charAt_3b067 wsJ2_getChar_3b067 := goodIn_r _ [19, 20, 21, 22, 5, 6, 3, 7] (by decide +kernel) (by decide +kernel)
set_option maxRecDepth 20000 in
theorem gJ2_charAt_3b067_J2_getChar_3b067 : GoodIn wsJ2_charAt_3b067 (va_wsS RJ2 71 yJ2_getChar_3b067 wsJ2_getChar_3b067) := goodIn_app (goodIn_of _ (by decide +kernel)) ggJ2_charAt_3b067_J2_getChar_3b067
set_option maxRecDepth 20000 in
theorem ggJ2_checkIndex_2214a_J2_length_9d52b : GoodIn wsJ2_checkIndex_2214a wsJ2_length_9d52b := goodIn_r _ [4] (by decide +kernel) (by decide +kernel)
set_option maxRecDepth 20000 in
theorem gJ2_checkIndex_2214a_J2_length_9d52b : GoodIn wsJ2_checkIndex_2214a (va_wsS RJ2 48 yJ2_length_9d52b wsJ2_length_9d52b) := goodIn_app (goodIn_of _ (by decide +kernel)) ggJ2_checkIndex_2214a_J2_length_9d52b
set_option maxRecDepth 20000 in
theorem ggJ2_checkIndex_2214a_J0_checkIndex_df160 : GoodIn wsJ2_checkIndex_2214a wsJ0_checkIndex_df160 := goodIn_r _ [8, 9, 10, 11, 12, 13] (by decide +kernel) (by decide +kernel)
set_option maxRecDepth 20000 in
theorem gJ2_checkIndex_2214a_J0_checkIndex_df160 : GoodIn wsJ2_checkIndex_2214a (va_wsS RJ2 414 yJ0_checkIndex_df160 wsJ0_checkIndex_df160) := goodIn_app (goodIn_of _ (by decide +kernel)) ggJ2_checkIndex_2214a_J0_checkIndex_df160
end
section
theorem dX0_init_0 : decode cX0_init 0 = .ok (.aload_n 0, 1) := by decide +kernel
theorem dX0_init_1 : decode cX0_init 1 = .ok (.invokespecial 5, 3) := by decide +kernel
theorem dX0_init_4 : decode cX0_init 4 = .ok (.aload_n 0, 1) := by decide +kernel
theorem dX0_init_5 : decode cX0_init 5 = .ok (.bipush 6, 2) := by decide +kernel
theorem dX0_init_7 : decode cX0_init 7 = .ok (.newarray .int, 2) := by decide +kernel
theorem dX0_init_9 : decode cX0_init 9 = .ok (.putfield 11, 3) := by decide +kernel
theorem dX0_init_12 : decode cX0_init 12 = .ok (.aload_n 0, 1) := by decide +kernel
theorem dX0_init_13 : decode cX0_init 13 = .ok (.bipush 6, 2) := by decide +kernel
theorem dX0_init_15 : decode cX0_init 15 = .ok (.newarray .int, 2) := by decide +kernel
theorem dX0_init_17 : decode cX0_init 17 = .ok (.putfield 15, 3) := by decide +kernel
theorem dX0_init_20 : decode cX0_init 20 = .ok (.aload_n 0, 1) := by decide +kernel
theorem dX0_init_21 : decode cX0_init 21 = .ok (.bipush 8, 2) := by decide +kernel
theorem dX0_init_23 : decode cX0_init 23 = .ok (.newarray .int, 2) := by decide +kernel
theorem dX0_init_25 : decode cX0_init 25 = .ok (.putfield 18, 3) := by decide +kernel
theorem dX0_init_28 : decode cX0_init 28 = .ok (.aload_n 0, 1) := by decide +kernel
theorem dX0_init_29 : decode cX0_init 29 = .ok (.bipush 8, 2) := by decide +kernel
theorem dX0_init_31 : decode cX0_init 31 = .ok (.newarray .int, 2) := by decide +kernel
theorem dX0_init_33 : decode cX0_init 33 = .ok (.putfield 21, 3) := by decide +kernel
theorem dX0_init_36 : decode cX0_init 36 = .ok (.aload_n 0, 1) := by decide +kernel
theorem dX0_init_37 : decode cX0_init 37 = .ok (.bipush 8, 2) := by decide +kernel
theorem dX0_init_39 : decode cX0_init 39 = .ok (.newarray .int, 2) := by decide +kernel
theorem dX0_init_41 : decode cX0_init 41 = .ok (.putfield 24, 3) := by decide +kernel
theorem dX0_init_44 : decode cX0_init 44 = .ok (.aload_n 0, 1) := by decide +kernel
theorem dX0_init_45 : decode cX0_init 45 = .ok (.bipush 64, 2) := by decide +kernel
theorem dX0_init_47 : decode cX0_init 47 = .ok (.newarray .int, 2) := by decide +kernel
theorem dX0_init_49 : decode cX0_init 49 = .ok (.putfield 27, 3) := by decide +kernel
theorem dX0_init_52 : decode cX0_init 52 = .ok (.return_, 1) := by decide +kernel
theorem dX0_add_0 : decode cX0_add 0 = .ok (.aload_n 0, 1) := by decide +kernel
theorem dX0_add_1 : decode cX0_add 1 = .ok (.getfield 30, 3) := by decide +kernel
theorem dX0_add_4 : decode cX0_add 4 = .ok (.bipush 8, 2) := by decide +kernel
theorem dX0_add_6 : decode cX0_add 6 = .ok (.if_icmp .ge 24, 3) := by decide +kernel
theorem dX0_add_9 : decode cX0_add 9 = .ok (.iload_n 1, 1) := by decide +kernel
theorem dX0_add_10 : decode cX0_add 10 = .ok (.ifCond .lt 20, 3) := by decide +kernel
theorem dX0_add_13 : decode cX0_add 13 = .ok (.iload_n 1, 1) := by decide +kernel
theorem dX0_add_14 : decode cX0_add 14 = .ok (.sipush 9999, 3) := by decide +kernel
theorem dX0_add_17 : decode cX0_add 17 = .ok (.if_icmp .gt 13, 3) := by decide +kernel
theorem dX0_add_20 : decode cX0_add 20 = .ok (.iload_n 2, 1) := by decide +kernel
theorem dX0_add_21 : decode cX0_add 21 = .ok (.ifCond .lt 9, 3) := by decide +kernel
theorem dX0_add_24 : decode cX0_add 24 = .ok (.iload_n 2, 1) := by decide +kernel
theorem dX0_add_25 : decode cX0_add 25 = .ok (.bipush 64, 2) := by decide +kernel
theorem dX0_add_27 : decode cX0_add 27 = .ok (.if_icmp .lt 5, 3) := by decide +kernel
theorem dX0_add_30 : decode cX0_add 30 = .ok (.iconst (-1), 1) := by decide +kernel
theorem dX0_add_31 : decode cX0_add 31 = .ok (.ireturn, 1) := by decide +kernel
theorem dX0_add_32 : decode cX0_add 32 = .ok (.aload_n 0, 1) := by decide +kernel
theorem dX0_add_33 : decode cX0_add 33 = .ok (.getfield 21, 3) := by decide +kernel
theorem dX0_add_36 : decode cX0_add 36 = .ok (.aload_n 0, 1) := by decide +kernel
theorem dX0_add_37 : decode cX0_add 37 = .ok (.getfield 30, 3) := by decide +kernel
theorem dX0_add_40 : decode cX0_add 40 = .ok (.iload_n 1, 1) := by decide +kernel
theorem dX0_add_41 : decode cX0_add 41 = .ok (.iastore, 1) := by decide +kernel
theorem dX0_add_42 : decode cX0_add 42 = .ok (.aload_n 0, 1) := by decide +kernel
theorem dX0_add_43 : decode cX0_add 43 = .ok (.getfield 24, 3) := by decide +kernel
theorem dX0_add_46 : decode cX0_add 46 = .ok (.aload_n 0, 1) := by decide +kernel
theorem dX0_add_47 : decode cX0_add 47 = .ok (.getfield 30, 3) := by decide +kernel
theorem dX0_add_50 : decode cX0_add 50 = .ok (.iload_n 2, 1) := by decide +kernel
theorem dX0_add_51 : decode cX0_add 51 = .ok (.iastore, 1) := by decide +kernel
theorem dX0_add_52 : decode cX0_add 52 = .ok (.aload_n 0, 1) := by decide +kernel
theorem dX0_add_53 : decode cX0_add 53 = .ok (.dup, 1) := by decide +kernel
theorem dX0_add_54 : decode cX0_add 54 = .ok (.getfield 30, 3) := by decide +kernel
theorem dX0_add_57 : decode cX0_add 57 = .ok (.iconst 1, 1) := by decide +kernel
theorem dX0_add_58 : decode cX0_add 58 = .ok (.iadd, 1) := by decide +kernel
theorem dX0_add_59 : decode cX0_add 59 = .ok (.putfield 30, 3) := by decide +kernel
theorem dX0_add_62 : decode cX0_add 62 = .ok (.aload_n 0, 1) := by decide +kernel
theorem dX0_add_63 : decode cX0_add 63 = .ok (.getfield 30, 3) := by decide +kernel
theorem dX0_add_66 : decode cX0_add 66 = .ok (.iconst 1, 1) := by decide +kernel
theorem dX0_add_67 : decode cX0_add 67 = .ok (.isub, 1) := by decide +kernel
theorem dX0_add_68 : decode cX0_add 68 = .ok (.ireturn, 1) := by decide +kernel
theorem dX0_plan_0 : decode cX0_plan 0 = .ok (.aload_n 0, 1) := by decide +kernel
theorem dX0_plan_1 : decode cX0_plan 1 = .ok (.invokevirtual 34, 3) := by decide +kernel
theorem dX0_plan_4 : decode cX0_plan 4 = .ok (.aload_n 0, 1) := by decide +kernel
theorem dX0_plan_5 : decode cX0_plan 5 = .ok (.invokevirtual 37, 3) := by decide +kernel
theorem dX0_plan_8 : decode cX0_plan 8 = .ok (.return_, 1) := by decide +kernel
theorem dX0_planEnds_0 : decode cX0_planEnds 0 = .ok (.aload_n 0, 1) := by decide +kernel
theorem dX0_planEnds_1 : decode cX0_planEnds 1 = .ok (.aload_n 0, 1) := by decide +kernel
theorem dX0_planEnds_2 : decode cX0_planEnds 2 = .ok (.getfield 11, 3) := by decide +kernel
theorem dX0_planEnds_5 : decode cX0_planEnds 5 = .ok (.invokevirtual 40, 3) := by decide +kernel
theorem dX0_planEnds_8 : decode cX0_planEnds 8 = .ok (.iconst 0, 1) := by decide +kernel
theorem dX0_planEnds_9 : decode cX0_planEnds 9 = .ok (.istore_n 1, 1) := by decide +kernel
theorem dX0_planEnds_10 : decode cX0_planEnds 10 = .ok (.iload_n 1, 1) := by decide +kernel
theorem dX0_planEnds_11 : decode cX0_planEnds 11 = .ok (.aload_n 0, 1) := by decide +kernel
theorem dX0_planEnds_12 : decode cX0_planEnds 12 = .ok (.getfield 30, 3) := by decide +kernel
theorem dX0_planEnds_15 : decode cX0_planEnds 15 = .ok (.if_icmp .ge 14, 3) := by decide +kernel
theorem dX0_planEnds_18 : decode cX0_planEnds 18 = .ok (.aload_n 0, 1) := by decide +kernel
theorem dX0_planEnds_19 : decode cX0_planEnds 19 = .ok (.iload_n 1, 1) := by decide +kernel
theorem dX0_planEnds_20 : decode cX0_planEnds 20 = .ok (.invokevirtual 44, 3) := by decide +kernel
theorem dX0_planEnds_23 : decode cX0_planEnds 23 = .ok (.iinc 1 1, 3) := by decide +kernel
theorem dX0_planEnds_26 : decode cX0_planEnds 26 = .ok (.goto (-16), 3) := by decide +kernel
theorem dX0_planEnds_29 : decode cX0_planEnds 29 = .ok (.aload_n 0, 1) := by decide +kernel
theorem dX0_planEnds_30 : decode cX0_planEnds 30 = .ok (.iconst 0, 1) := by decide +kernel
theorem dX0_planEnds_31 : decode cX0_planEnds 31 = .ok (.putfield 48, 3) := by decide +kernel
theorem dX0_planEnds_34 : decode cX0_planEnds 34 = .ok (.aload_n 0, 1) := by decide +kernel
theorem dX0_planEnds_35 : decode cX0_planEnds 35 = .ok (.iconst 0, 1) := by decide +kernel
theorem dX0_planEnds_36 : decode cX0_planEnds 36 = .ok (.putfield 51, 3) := by decide +kernel
theorem dX0_planEnds_39 : decode cX0_planEnds 39 = .ok (.iconst 0, 1) := by decide +kernel
theorem dX0_planEnds_40 : decode cX0_planEnds 40 = .ok (.istore_n 1, 1) := by decide +kernel
theorem dX0_planEnds_41 : decode cX0_planEnds 41 = .ok (.iconst 0, 1) := by decide +kernel
theorem dX0_planEnds_42 : decode cX0_planEnds 42 = .ok (.istore_n 2, 1) := by decide +kernel
theorem dX0_planEnds_43 : decode cX0_planEnds 43 = .ok (.iconst 0, 1) := by decide +kernel
theorem dX0_planEnds_44 : decode cX0_planEnds 44 = .ok (.istore_n 3, 1) := by decide +kernel
theorem dX0_planEnds_45 : decode cX0_planEnds 45 = .ok (.iload_n 3, 1) := by decide +kernel
theorem dX0_planEnds_46 : decode cX0_planEnds 46 = .ok (.bipush 6, 2) := by decide +kernel
theorem dX0_planEnds_48 : decode cX0_planEnds 48 = .ok (.if_icmp .ge 89, 3) := by decide +kernel
theorem dX0_planEnds_51 : decode cX0_planEnds 51 = .ok (.iload_n 1, 1) := by decide +kernel
theorem dX0_planEnds_52 : decode cX0_planEnds 52 = .ok (.aload_n 0, 1) := by decide +kernel
theorem dX0_planEnds_53 : decode cX0_planEnds 53 = .ok (.getfield 11, 3) := by decide +kernel
theorem dX0_planEnds_56 : decode cX0_planEnds 56 = .ok (.iload_n 3, 1) := by decide +kernel
theorem dX0_planEnds_57 : decode cX0_planEnds 57 = .ok (.iaload, 1) := by decide +kernel
theorem dX0_planEnds_58 : decode cX0_planEnds 58 = .ok (.iadd, 1) := by decide +kernel
theorem dX0_planEnds_59 : decode cX0_planEnds 59 = .ok (.istore_n 1, 1) := by decide +kernel
theorem dX0_planEnds_60 : decode cX0_planEnds 60 = .ok (.iconst 1, 1) := by decide +kernel
theorem dX0_planEnds_61 : decode cX0_planEnds 61 = .ok (.iload_n 3, 1) := by decide +kernel
theorem dX0_planEnds_62 : decode cX0_planEnds 62 = .ok (.ishl, 1) := by decide +kernel
theorem dX0_planEnds_63 : decode cX0_planEnds 63 = .ok (.istore 4, 2) := by decide +kernel
theorem dX0_planEnds_65 : decode cX0_planEnds 65 = .ok (.iload 4, 2) := by decide +kernel
theorem dX0_planEnds_67 : decode cX0_planEnds 67 = .ok (.iconst 2, 1) := by decide +kernel
theorem dX0_planEnds_68 : decode cX0_planEnds 68 = .ok (.iload_n 3, 1) := by decide +kernel
theorem dX0_planEnds_69 : decode cX0_planEnds 69 = .ok (.ishl, 1) := by decide +kernel
theorem dX0_planEnds_70 : decode cX0_planEnds 70 = .ok (.if_icmp .ge 40, 3) := by decide +kernel
theorem dX0_planEnds_73 : decode cX0_planEnds 73 = .ok (.aload_n 0, 1) := by decide +kernel
theorem dX0_planEnds_74 : decode cX0_planEnds 74 = .ok (.getfield 27, 3) := by decide +kernel
theorem dX0_planEnds_77 : decode cX0_planEnds 77 = .ok (.iload 4, 2) := by decide +kernel
theorem dX0_planEnds_79 : decode cX0_planEnds 79 = .ok (.iaload, 1) := by decide +kernel
theorem dX0_planEnds_80 : decode cX0_planEnds 80 = .ok (.aload_n 0, 1) := by decide +kernel
theorem dX0_planEnds_81 : decode cX0_planEnds 81 = .ok (.getfield 48, 3) := by decide +kernel
theorem dX0_planEnds_84 : decode cX0_planEnds 84 = .ok (.if_icmp .le 20, 3) := by decide +kernel
theorem dX0_planEnds_87 : decode cX0_planEnds 87 = .ok (.aload_n 0, 1) := by decide +kernel
theorem dX0_planEnds_88 : decode cX0_planEnds 88 = .ok (.aload_n 0, 1) := by decide +kernel
theorem dX0_planEnds_89 : decode cX0_planEnds 89 = .ok (.getfield 27, 3) := by decide +kernel
theorem dX0_planEnds_92 : decode cX0_planEnds 92 = .ok (.iload 4, 2) := by decide +kernel
theorem dX0_planEnds_94 : decode cX0_planEnds 94 = .ok (.iaload, 1) := by decide +kernel
theorem dX0_planEnds_95 : decode cX0_planEnds 95 = .ok (.putfield 48, 3) := by decide +kernel
theorem dX0_planEnds_98 : decode cX0_planEnds 98 = .ok (.aload_n 0, 1) := by decide +kernel
theorem dX0_planEnds_99 : decode cX0_planEnds 99 = .ok (.iload 4, 2) := by decide +kernel
theorem dX0_planEnds_101 : decode cX0_planEnds 101 = .ok (.putfield 51, 3) := by decide +kernel
theorem dX0_planEnds_104 : decode cX0_planEnds 104 = .ok (.iinc 4 1, 3) := by decide +kernel
theorem dX0_planEnds_107 : decode cX0_planEnds 107 = .ok (.goto (-42), 3) := by decide +kernel
theorem dX0_planEnds_110 : decode cX0_planEnds 110 = .ok (.aload_n 0, 1) := by decide +kernel
theorem dX0_planEnds_111 : decode cX0_planEnds 111 = .ok (.getfield 15, 3) := by decide +kernel
theorem dX0_planEnds_114 : decode cX0_planEnds 114 = .ok (.iload_n 3, 1) := by decide +kernel
theorem dX0_planEnds_115 : decode cX0_planEnds 115 = .ok (.iload_n 1, 1) := by decide +kernel
theorem dX0_planEnds_116 : decode cX0_planEnds 116 = .ok (.aload_n 0, 1) := by decide +kernel
theorem dX0_planEnds_117 : decode cX0_planEnds 117 = .ok (.getfield 48, 3) := by decide +kernel
theorem dX0_planEnds_120 : decode cX0_planEnds 120 = .ok (.isub, 1) := by decide +kernel
theorem dX0_planEnds_121 : decode cX0_planEnds 121 = .ok (.iload_n 2, 1) := by decide +kernel
theorem dX0_planEnds_122 : decode cX0_planEnds 122 = .ok (.isub, 1) := by decide +kernel
theorem dX0_planEnds_123 : decode cX0_planEnds 123 = .ok (.iastore, 1) := by decide +kernel
theorem dX0_planEnds_124 : decode cX0_planEnds 124 = .ok (.iload_n 1, 1) := by decide +kernel
theorem dX0_planEnds_125 : decode cX0_planEnds 125 = .ok (.aload_n 0, 1) := by decide +kernel
theorem dX0_planEnds_126 : decode cX0_planEnds 126 = .ok (.getfield 48, 3) := by decide +kernel
theorem dX0_planEnds_129 : decode cX0_planEnds 129 = .ok (.isub, 1) := by decide +kernel
theorem dX0_planEnds_130 : decode cX0_planEnds 130 = .ok (.istore_n 2, 1) := by decide +kernel
theorem dX0_planEnds_131 : decode cX0_planEnds 131 = .ok (.iinc 3 1, 3) := by decide +kernel
theorem dX0_planEnds_134 : decode cX0_planEnds 134 = .ok (.goto (-89), 3) := by decide +kernel
theorem dX0_planEnds_137 : decode cX0_planEnds 137 = .ok (.return_, 1) := by decide +kernel
theorem dX0_planLegacies_0 : decode cX0_planLegacies 0 = .ok (.aload_n 0, 1) := by decide +kernel
theorem dX0_planLegacies_1 : decode cX0_planLegacies 1 = .ok (.aload_n 0, 1) := by decide +kernel
theorem dX0_planLegacies_2 : decode cX0_planLegacies 2 = .ok (.getfield 15, 3) := by decide +kernel
theorem dX0_planLegacies_5 : decode cX0_planLegacies 5 = .ok (.invokevirtual 40, 3) := by decide +kernel
theorem dX0_planLegacies_8 : decode cX0_planLegacies 8 = .ok (.aload_n 0, 1) := by decide +kernel
theorem dX0_planLegacies_9 : decode cX0_planLegacies 9 = .ok (.getfield 27, 3) := by decide +kernel
theorem dX0_planLegacies_12 : decode cX0_planLegacies 12 = .ok (.bipush 63, 2) := by decide +kernel
theorem dX0_planLegacies_14 : decode cX0_planLegacies 14 = .ok (.iaload, 1) := by decide +kernel
theorem dX0_planLegacies_15 : decode cX0_planLegacies 15 = .ok (.istore_n 1, 1) := by decide +kernel
theorem dX0_planLegacies_16 : decode cX0_planLegacies 16 = .ok (.iconst 0, 1) := by decide +kernel
theorem dX0_planLegacies_17 : decode cX0_planLegacies 17 = .ok (.istore_n 2, 1) := by decide +kernel
theorem dX0_planLegacies_18 : decode cX0_planLegacies 18 = .ok (.iconst 0, 1) := by decide +kernel
theorem dX0_planLegacies_19 : decode cX0_planLegacies 19 = .ok (.istore_n 3, 1) := by decide +kernel
theorem dX0_planLegacies_20 : decode cX0_planLegacies 20 = .ok (.iload_n 3, 1) := by decide +kernel
theorem dX0_planLegacies_21 : decode cX0_planLegacies 21 = .ok (.aload_n 0, 1) := by decide +kernel
theorem dX0_planLegacies_22 : decode cX0_planLegacies 22 = .ok (.getfield 30, 3) := by decide +kernel
theorem dX0_planLegacies_25 : decode cX0_planLegacies 25 = .ok (.if_icmp .ge 35, 3) := by decide +kernel
theorem dX0_planLegacies_28 : decode cX0_planLegacies 28 = .ok (.aload_n 0, 1) := by decide +kernel
theorem dX0_planLegacies_29 : decode cX0_planLegacies 29 = .ok (.iload_n 3, 1) := by decide +kernel
theorem dX0_planLegacies_30 : decode cX0_planLegacies 30 = .ok (.invokevirtual 44, 3) := by decide +kernel
theorem dX0_planLegacies_33 : decode cX0_planLegacies 33 = .ok (.iload_n 1, 1) := by decide +kernel
theorem dX0_planLegacies_34 : decode cX0_planLegacies 34 = .ok (.aload_n 0, 1) := by decide +kernel
theorem dX0_planLegacies_35 : decode cX0_planLegacies 35 = .ok (.invokevirtual 54, 3) := by decide +kernel
theorem dX0_planLegacies_38 : decode cX0_planLegacies 38 = .ok (.isub, 1) := by decide +kernel
theorem dX0_planLegacies_39 : decode cX0_planLegacies 39 = .ok (.istore 4, 2) := by decide +kernel
theorem dX0_planLegacies_41 : decode cX0_planLegacies 41 = .ok (.aload_n 0, 1) := by decide +kernel
theorem dX0_planLegacies_42 : decode cX0_planLegacies 42 = .ok (.getfield 18, 3) := by decide +kernel
theorem dX0_planLegacies_45 : decode cX0_planLegacies 45 = .ok (.iload_n 3, 1) := by decide +kernel
theorem dX0_planLegacies_46 : decode cX0_planLegacies 46 = .ok (.iload 4, 2) := by decide +kernel
theorem dX0_planLegacies_48 : decode cX0_planLegacies 48 = .ok (.iload_n 2, 1) := by decide +kernel
theorem dX0_planLegacies_49 : decode cX0_planLegacies 49 = .ok (.isub, 1) := by decide +kernel
theorem dX0_planLegacies_50 : decode cX0_planLegacies 50 = .ok (.iastore, 1) := by decide +kernel
theorem dX0_planLegacies_51 : decode cX0_planLegacies 51 = .ok (.iload 4, 2) := by decide +kernel
theorem dX0_planLegacies_53 : decode cX0_planLegacies 53 = .ok (.istore_n 2, 1) := by decide +kernel
theorem dX0_planLegacies_54 : decode cX0_planLegacies 54 = .ok (.iinc 3 1, 3) := by decide +kernel
theorem dX0_planLegacies_57 : decode cX0_planLegacies 57 = .ok (.goto (-37), 3) := by decide +kernel
theorem dX0_planLegacies_60 : decode cX0_planLegacies 60 = .ok (.return_, 1) := by decide +kernel
theorem dX0_setLack_0 : decode cX0_setLack 0 = .ok (.aload_n 0, 1) := by decide +kernel
theorem dX0_setLack_1 : decode cX0_setLack 1 = .ok (.getfield 27, 3) := by decide +kernel
theorem dX0_setLack_4 : decode cX0_setLack 4 = .ok (.iconst 0, 1) := by decide +kernel
theorem dX0_setLack_5 : decode cX0_setLack 5 = .ok (.iconst 0, 1) := by decide +kernel
theorem dX0_setLack_6 : decode cX0_setLack 6 = .ok (.iastore, 1) := by decide +kernel
theorem dX0_setLack_7 : decode cX0_setLack 7 = .ok (.iconst 0, 1) := by decide +kernel
theorem dX0_setLack_8 : decode cX0_setLack 8 = .ok (.istore_n 2, 1) := by decide +kernel
theorem dX0_setLack_9 : decode cX0_setLack 9 = .ok (.iload_n 2, 1) := by decide +kernel
theorem dX0_setLack_10 : decode cX0_setLack 10 = .ok (.bipush 6, 2) := by decide +kernel
theorem dX0_setLack_12 : decode cX0_setLack 12 = .ok (.if_icmp .ge 50, 3) := by decide +kernel
theorem dX0_setLack_15 : decode cX0_setLack 15 = .ok (.iload_n 2, 1) := by decide +kernel
theorem dX0_setLack_16 : decode cX0_setLack 16 = .ok (.aload_n 1, 1) := by decide +kernel
theorem dX0_setLack_17 : decode cX0_setLack 17 = .ok (.arraylength, 1) := by decide +kernel
theorem dX0_setLack_18 : decode cX0_setLack 18 = .ok (.if_icmp .ge 44, 3) := by decide +kernel
theorem dX0_setLack_21 : decode cX0_setLack 21 = .ok (.iconst 0, 1) := by decide +kernel
theorem dX0_setLack_22 : decode cX0_setLack 22 = .ok (.istore_n 3, 1) := by decide +kernel
theorem dX0_setLack_23 : decode cX0_setLack 23 = .ok (.iload_n 3, 1) := by decide +kernel
theorem dX0_setLack_24 : decode cX0_setLack 24 = .ok (.iconst 1, 1) := by decide +kernel
theorem dX0_setLack_25 : decode cX0_setLack 25 = .ok (.iload_n 2, 1) := by decide +kernel
theorem dX0_setLack_26 : decode cX0_setLack 26 = .ok (.ishl, 1) := by decide +kernel
theorem dX0_setLack_27 : decode cX0_setLack 27 = .ok (.if_icmp .ge 29, 3) := by decide +kernel
theorem dX0_setLack_30 : decode cX0_setLack 30 = .ok (.aload_n 0, 1) := by decide +kernel
theorem dX0_setLack_31 : decode cX0_setLack 31 = .ok (.getfield 27, 3) := by decide +kernel
theorem dX0_setLack_34 : decode cX0_setLack 34 = .ok (.iload_n 3, 1) := by decide +kernel
theorem dX0_setLack_35 : decode cX0_setLack 35 = .ok (.iconst 1, 1) := by decide +kernel
theorem dX0_setLack_36 : decode cX0_setLack 36 = .ok (.iload_n 2, 1) := by decide +kernel
theorem dX0_setLack_37 : decode cX0_setLack 37 = .ok (.ishl, 1) := by decide +kernel
theorem dX0_setLack_38 : decode cX0_setLack 38 = .ok (.ior, 1) := by decide +kernel
theorem dX0_setLack_39 : decode cX0_setLack 39 = .ok (.aload_n 0, 1) := by decide +kernel
theorem dX0_setLack_40 : decode cX0_setLack 40 = .ok (.getfield 27, 3) := by decide +kernel
theorem dX0_setLack_43 : decode cX0_setLack 43 = .ok (.iload_n 3, 1) := by decide +kernel
theorem dX0_setLack_44 : decode cX0_setLack 44 = .ok (.iaload, 1) := by decide +kernel
theorem dX0_setLack_45 : decode cX0_setLack 45 = .ok (.aload_n 1, 1) := by decide +kernel
theorem dX0_setLack_46 : decode cX0_setLack 46 = .ok (.iload_n 2, 1) := by decide +kernel
theorem dX0_setLack_47 : decode cX0_setLack 47 = .ok (.iaload, 1) := by decide +kernel
theorem dX0_setLack_48 : decode cX0_setLack 48 = .ok (.iadd, 1) := by decide +kernel
theorem dX0_setLack_49 : decode cX0_setLack 49 = .ok (.iastore, 1) := by decide +kernel
theorem dX0_setLack_50 : decode cX0_setLack 50 = .ok (.iinc 3 1, 3) := by decide +kernel
theorem dX0_setLack_53 : decode cX0_setLack 53 = .ok (.goto (-30), 3) := by decide +kernel
theorem dX0_setLack_56 : decode cX0_setLack 56 = .ok (.iinc 2 1, 3) := by decide +kernel
theorem dX0_setLack_59 : decode cX0_setLack 59 = .ok (.goto (-50), 3) := by decide +kernel
theorem dX0_setLack_62 : decode cX0_setLack 62 = .ok (.return_, 1) := by decide +kernel
theorem dX0_lessenLack_0 : decode cX0_lessenLack 0 = .ok (.iconst 1, 1) := by decide +kernel
theorem dX0_lessenLack_1 : decode cX0_lessenLack 1 = .ok (.istore_n 2, 1) := by decide +kernel
theorem dX0_lessenLack_2 : decode cX0_lessenLack 2 = .ok (.iload_n 2, 1) := by decide +kernel
theorem dX0_lessenLack_3 : decode cX0_lessenLack 3 = .ok (.bipush 64, 2) := by decide +kernel
theorem dX0_lessenLack_5 : decode cX0_lessenLack 5 = .ok (.if_icmp .ge 35, 3) := by decide +kernel
theorem dX0_lessenLack_8 : decode cX0_lessenLack 8 = .ok (.iload_n 2, 1) := by decide +kernel
theorem dX0_lessenLack_9 : decode cX0_lessenLack 9 = .ok (.aload_n 0, 1) := by decide +kernel
theorem dX0_lessenLack_10 : decode cX0_lessenLack 10 = .ok (.getfield 24, 3) := by decide +kernel
theorem dX0_lessenLack_13 : decode cX0_lessenLack 13 = .ok (.iload_n 1, 1) := by decide +kernel
theorem dX0_lessenLack_14 : decode cX0_lessenLack 14 = .ok (.iaload, 1) := by decide +kernel
theorem dX0_lessenLack_15 : decode cX0_lessenLack 15 = .ok (.iand, 1) := by decide +kernel
theorem dX0_lessenLack_16 : decode cX0_lessenLack 16 = .ok (.ifCond .eq 18, 3) := by decide +kernel
theorem dX0_lessenLack_19 : decode cX0_lessenLack 19 = .ok (.aload_n 0, 1) := by decide +kernel
theorem dX0_lessenLack_20 : decode cX0_lessenLack 20 = .ok (.getfield 27, 3) := by decide +kernel
theorem dX0_lessenLack_23 : decode cX0_lessenLack 23 = .ok (.iload_n 2, 1) := by decide +kernel
theorem dX0_lessenLack_24 : decode cX0_lessenLack 24 = .ok (.dup2, 1) := by decide +kernel
theorem dX0_lessenLack_25 : decode cX0_lessenLack 25 = .ok (.iaload, 1) := by decide +kernel
theorem dX0_lessenLack_26 : decode cX0_lessenLack 26 = .ok (.aload_n 0, 1) := by decide +kernel
theorem dX0_lessenLack_27 : decode cX0_lessenLack 27 = .ok (.getfield 21, 3) := by decide +kernel
theorem dX0_lessenLack_30 : decode cX0_lessenLack 30 = .ok (.iload_n 1, 1) := by decide +kernel
theorem dX0_lessenLack_31 : decode cX0_lessenLack 31 = .ok (.iaload, 1) := by decide +kernel
theorem dX0_lessenLack_32 : decode cX0_lessenLack 32 = .ok (.isub, 1) := by decide +kernel
theorem dX0_lessenLack_33 : decode cX0_lessenLack 33 = .ok (.iastore, 1) := by decide +kernel
theorem dX0_lessenLack_34 : decode cX0_lessenLack 34 = .ok (.iinc 2 1, 3) := by decide +kernel
theorem dX0_lessenLack_37 : decode cX0_lessenLack 37 = .ok (.goto (-35), 3) := by decide +kernel
theorem dX0_lessenLack_40 : decode cX0_lessenLack 40 = .ok (.return_, 1) := by decide +kernel
theorem dX0_greatestLack_0 : decode cX0_greatestLack 0 = .ok (.iconst 0, 1) := by decide +kernel
theorem dX0_greatestLack_1 : decode cX0_greatestLack 1 = .ok (.istore_n 1, 1) := by decide +kernel
theorem dX0_greatestLack_2 : decode cX0_greatestLack 2 = .ok (.iconst 1, 1) := by decide +kernel
theorem dX0_greatestLack_3 : decode cX0_greatestLack 3 = .ok (.istore_n 2, 1) := by decide +kernel
theorem dX0_greatestLack_4 : decode cX0_greatestLack 4 = .ok (.iload_n 2, 1) := by decide +kernel
theorem dX0_greatestLack_5 : decode cX0_greatestLack 5 = .ok (.bipush 64, 2) := by decide +kernel
theorem dX0_greatestLack_7 : decode cX0_greatestLack 7 = .ok (.if_icmp .ge 20, 3) := by decide +kernel
theorem dX0_greatestLack_10 : decode cX0_greatestLack 10 = .ok (.iload_n 1, 1) := by decide +kernel
theorem dX0_greatestLack_11 : decode cX0_greatestLack 11 = .ok (.aload_n 0, 1) := by decide +kernel
theorem dX0_greatestLack_12 : decode cX0_greatestLack 12 = .ok (.getfield 27, 3) := by decide +kernel
theorem dX0_greatestLack_15 : decode cX0_greatestLack 15 = .ok (.iload_n 2, 1) := by decide +kernel
theorem dX0_greatestLack_16 : decode cX0_greatestLack 16 = .ok (.iaload, 1) := by decide +kernel
theorem dX0_greatestLack_17 : decode cX0_greatestLack 17 = .ok (.invokestatic 58, 3) := by decide +kernel
theorem dX0_greatestLack_20 : decode cX0_greatestLack 20 = .ok (.istore_n 1, 1) := by decide +kernel
theorem dX0_greatestLack_21 : decode cX0_greatestLack 21 = .ok (.iinc 2 1, 3) := by decide +kernel
theorem dX0_greatestLack_24 : decode cX0_greatestLack 24 = .ok (.goto (-20), 3) := by decide +kernel
theorem dX0_greatestLack_27 : decode cX0_greatestLack 27 = .ok (.iload_n 1, 1) := by decide +kernel
theorem dX0_greatestLack_28 : decode cX0_greatestLack 28 = .ok (.ireturn, 1) := by decide +kernel
theorem dX0_payPlanned_0 : decode cX0_payPlanned 0 = .ok (.iconst 0, 1) := by decide +kernel
theorem dX0_payPlanned_1 : decode cX0_payPlanned 1 = .ok (.istore_n 1, 1) := by decide +kernel
theorem dX0_payPlanned_2 : decode cX0_payPlanned 2 = .ok (.iconst 0, 1) := by decide +kernel
theorem dX0_payPlanned_3 : decode cX0_payPlanned 3 = .ok (.istore_n 2, 1) := by decide +kernel
theorem dX0_payPlanned_4 : decode cX0_payPlanned 4 = .ok (.iload_n 2, 1) := by decide +kernel
theorem dX0_payPlanned_5 : decode cX0_payPlanned 5 = .ok (.bipush 6, 2) := by decide +kernel
theorem dX0_payPlanned_7 : decode cX0_payPlanned 7 = .ok (.if_icmp .ge 33, 3) := by decide +kernel
theorem dX0_payPlanned_10 : decode cX0_payPlanned 10 = .ok (.aload_n 0, 1) := by decide +kernel
theorem dX0_payPlanned_11 : decode cX0_payPlanned 11 = .ok (.getfield 11, 3) := by decide +kernel
theorem dX0_payPlanned_14 : decode cX0_payPlanned 14 = .ok (.iload_n 2, 1) := by decide +kernel
theorem dX0_payPlanned_15 : decode cX0_payPlanned 15 = .ok (.dup2, 1) := by decide +kernel
theorem dX0_payPlanned_16 : decode cX0_payPlanned 16 = .ok (.iaload, 1) := by decide +kernel
theorem dX0_payPlanned_17 : decode cX0_payPlanned 17 = .ok (.aload_n 0, 1) := by decide +kernel
theorem dX0_payPlanned_18 : decode cX0_payPlanned 18 = .ok (.getfield 15, 3) := by decide +kernel
theorem dX0_payPlanned_21 : decode cX0_payPlanned 21 = .ok (.iload_n 2, 1) := by decide +kernel
theorem dX0_payPlanned_22 : decode cX0_payPlanned 22 = .ok (.iaload, 1) := by decide +kernel
theorem dX0_payPlanned_23 : decode cX0_payPlanned 23 = .ok (.isub, 1) := by decide +kernel
theorem dX0_payPlanned_24 : decode cX0_payPlanned 24 = .ok (.iastore, 1) := by decide +kernel
theorem dX0_payPlanned_25 : decode cX0_payPlanned 25 = .ok (.iload_n 1, 1) := by decide +kernel
theorem dX0_payPlanned_26 : decode cX0_payPlanned 26 = .ok (.aload_n 0, 1) := by decide +kernel
theorem dX0_payPlanned_27 : decode cX0_payPlanned 27 = .ok (.getfield 15, 3) := by decide +kernel
theorem dX0_payPlanned_30 : decode cX0_payPlanned 30 = .ok (.iload_n 2, 1) := by decide +kernel
theorem dX0_payPlanned_31 : decode cX0_payPlanned 31 = .ok (.iaload, 1) := by decide +kernel
theorem dX0_payPlanned_32 : decode cX0_payPlanned 32 = .ok (.iadd, 1) := by decide +kernel
theorem dX0_payPlanned_33 : decode cX0_payPlanned 33 = .ok (.istore_n 1, 1) := by decide +kernel
theorem dX0_payPlanned_34 : decode cX0_payPlanned 34 = .ok (.iinc 2 1, 3) := by decide +kernel
theorem dX0_payPlanned_37 : decode cX0_payPlanned 37 = .ok (.goto (-33), 3) := by decide +kernel
theorem dX0_payPlanned_40 : decode cX0_payPlanned 40 = .ok (.iconst 0, 1) := by decide +kernel
theorem dX0_payPlanned_41 : decode cX0_payPlanned 41 = .ok (.istore_n 2, 1) := by decide +kernel
theorem dX0_payPlanned_42 : decode cX0_payPlanned 42 = .ok (.iload_n 2, 1) := by decide +kernel
theorem dX0_payPlanned_43 : decode cX0_payPlanned 43 = .ok (.aload_n 0, 1) := by decide +kernel
theorem dX0_payPlanned_44 : decode cX0_payPlanned 44 = .ok (.getfield 30, 3) := by decide +kernel
theorem dX0_payPlanned_47 : decode cX0_payPlanned 47 = .ok (.if_icmp .ge 24, 3) := by decide +kernel
theorem dX0_payPlanned_50 : decode cX0_payPlanned 50 = .ok (.aload_n 0, 1) := by decide +kernel
theorem dX0_payPlanned_51 : decode cX0_payPlanned 51 = .ok (.getfield 21, 3) := by decide +kernel
theorem dX0_payPlanned_54 : decode cX0_payPlanned 54 = .ok (.iload_n 2, 1) := by decide +kernel
theorem dX0_payPlanned_55 : decode cX0_payPlanned 55 = .ok (.dup2, 1) := by decide +kernel
theorem dX0_payPlanned_56 : decode cX0_payPlanned 56 = .ok (.iaload, 1) := by decide +kernel
theorem dX0_payPlanned_57 : decode cX0_payPlanned 57 = .ok (.aload_n 0, 1) := by decide +kernel
theorem dX0_payPlanned_58 : decode cX0_payPlanned 58 = .ok (.getfield 18, 3) := by decide +kernel
theorem dX0_payPlanned_61 : decode cX0_payPlanned 61 = .ok (.iload_n 2, 1) := by decide +kernel
theorem dX0_payPlanned_62 : decode cX0_payPlanned 62 = .ok (.iaload, 1) := by decide +kernel
theorem dX0_payPlanned_63 : decode cX0_payPlanned 63 = .ok (.isub, 1) := by decide +kernel
theorem dX0_payPlanned_64 : decode cX0_payPlanned 64 = .ok (.iastore, 1) := by decide +kernel
theorem dX0_payPlanned_65 : decode cX0_payPlanned 65 = .ok (.iinc 2 1, 3) := by decide +kernel
theorem dX0_payPlanned_68 : decode cX0_payPlanned 68 = .ok (.goto (-26), 3) := by decide +kernel
theorem dX0_payPlanned_71 : decode cX0_payPlanned 71 = .ok (.iload_n 1, 1) := by decide +kernel
theorem dX0_payPlanned_72 : decode cX0_payPlanned 72 = .ok (.ireturn, 1) := by decide +kernel
theorem dX1_init_0 : decode cX1_init 0 = .ok (.aload_n 0, 1) := by decide +kernel
theorem dX1_init_1 : decode cX1_init 1 = .ok (.invokespecial 3, 3) := by decide +kernel
theorem dX1_init_4 : decode cX1_init 4 = .ok (.aload_n 0, 1) := by decide +kernel
theorem dX1_init_5 : decode cX1_init 5 = .ok (.bipush 16, 2) := by decide +kernel
theorem dX1_init_7 : decode cX1_init 7 = .ok (.newarray .int, 2) := by decide +kernel
theorem dX1_init_9 : decode cX1_init 9 = .ok (.putfield 11, 3) := by decide +kernel
theorem dX1_init_12 : decode cX1_init 12 = .ok (.aload_n 0, 1) := by decide +kernel
theorem dX1_init_13 : decode cX1_init 13 = .ok (.bipush 16, 2) := by decide +kernel
theorem dX1_init_15 : decode cX1_init 15 = .ok (.newarray .int, 2) := by decide +kernel
theorem dX1_init_17 : decode cX1_init 17 = .ok (.putfield 15, 3) := by decide +kernel
theorem dX1_init_20 : decode cX1_init 20 = .ok (.aload_n 0, 1) := by decide +kernel
theorem dX1_init_21 : decode cX1_init 21 = .ok (.bipush 16, 2) := by decide +kernel
theorem dX1_init_23 : decode cX1_init 23 = .ok (.newarray .int, 2) := by decide +kernel
theorem dX1_init_25 : decode cX1_init 25 = .ok (.putfield 18, 3) := by decide +kernel
theorem dX1_init_28 : decode cX1_init 28 = .ok (.aload_n 0, 1) := by decide +kernel
theorem dX1_init_29 : decode cX1_init 29 = .ok (.bipush 16, 2) := by decide +kernel
theorem dX1_init_31 : decode cX1_init 31 = .ok (.newarray .int, 2) := by decide +kernel
theorem dX1_init_33 : decode cX1_init 33 = .ok (.putfield 21, 3) := by decide +kernel
theorem dX1_init_36 : decode cX1_init 36 = .ok (.aload_n 0, 1) := by decide +kernel
theorem dX1_init_37 : decode cX1_init 37 = .ok (.bipush 16, 2) := by decide +kernel
theorem dX1_init_39 : decode cX1_init 39 = .ok (.newarray .int, 2) := by decide +kernel
theorem dX1_init_41 : decode cX1_init 41 = .ok (.putfield 24, 3) := by decide +kernel
theorem dX1_init_44 : decode cX1_init 44 = .ok (.aload_n 0, 1) := by decide +kernel
theorem dX1_init_45 : decode cX1_init 45 = .ok (.bipush 16, 2) := by decide +kernel
theorem dX1_init_47 : decode cX1_init 47 = .ok (.newarray .int, 2) := by decide +kernel
theorem dX1_init_49 : decode cX1_init 49 = .ok (.putfield 27, 3) := by decide +kernel
theorem dX1_init_52 : decode cX1_init 52 = .ok (.return_, 1) := by decide +kernel
theorem dX1_has_0 : decode cX1_has 0 = .ok (.iload_n 1, 1) := by decide +kernel
theorem dX1_has_1 : decode cX1_has 1 = .ok (.ifCond .lt 15, 3) := by decide +kernel
theorem dX1_has_4 : decode cX1_has 4 = .ok (.iload_n 1, 1) := by decide +kernel
theorem dX1_has_5 : decode cX1_has 5 = .ok (.aload_n 0, 1) := by decide +kernel
theorem dX1_has_6 : decode cX1_has 6 = .ok (.getfield 30, 3) := by decide +kernel
theorem dX1_has_9 : decode cX1_has 9 = .ok (.if_icmp .ge 7, 3) := by decide +kernel
theorem dX1_has_12 : decode cX1_has 12 = .ok (.iconst 1, 1) := by decide +kernel
theorem dX1_has_13 : decode cX1_has 13 = .ok (.goto 4, 3) := by decide +kernel
theorem dX1_has_16 : decode cX1_has 16 = .ok (.iconst 0, 1) := by decide +kernel
theorem dX1_has_17 : decode cX1_has 17 = .ok (.ireturn, 1) := by decide +kernel
theorem dX1_add_0 : decode cX1_add 0 = .ok (.aload_n 0, 1) := by decide +kernel
theorem dX1_add_1 : decode cX1_add 1 = .ok (.getfield 30, 3) := by decide +kernel
theorem dX1_add_4 : decode cX1_add 4 = .ok (.bipush 16, 2) := by decide +kernel
theorem dX1_add_6 : decode cX1_add 6 = .ok (.if_icmp .ge 14, 3) := by decide +kernel
theorem dX1_add_9 : decode cX1_add 9 = .ok (.iload_n 1, 1) := by decide +kernel
theorem dX1_add_10 : decode cX1_add 10 = .ok (.iload_n 2, 1) := by decide +kernel
theorem dX1_add_11 : decode cX1_add 11 = .ok (.iload_n 3, 1) := by decide +kernel
theorem dX1_add_12 : decode cX1_add 12 = .ok (.iload 4, 2) := by decide +kernel
theorem dX1_add_14 : decode cX1_add 14 = .ok (.invokestatic 34, 3) := by decide +kernel
theorem dX1_add_17 : decode cX1_add 17 = .ok (.ifCond .ne 5, 3) := by decide +kernel
theorem dX1_add_20 : decode cX1_add 20 = .ok (.iconst (-1), 1) := by decide +kernel
theorem dX1_add_21 : decode cX1_add 21 = .ok (.ireturn, 1) := by decide +kernel
theorem dX1_add_22 : decode cX1_add 22 = .ok (.aload_n 0, 1) := by decide +kernel
theorem dX1_add_23 : decode cX1_add 23 = .ok (.getfield 11, 3) := by decide +kernel
theorem dX1_add_26 : decode cX1_add 26 = .ok (.aload_n 0, 1) := by decide +kernel
theorem dX1_add_27 : decode cX1_add 27 = .ok (.getfield 30, 3) := by decide +kernel
theorem dX1_add_30 : decode cX1_add 30 = .ok (.iload_n 1, 1) := by decide +kernel
theorem dX1_add_31 : decode cX1_add 31 = .ok (.iastore, 1) := by decide +kernel
theorem dX1_add_32 : decode cX1_add 32 = .ok (.aload_n 0, 1) := by decide +kernel
theorem dX1_add_33 : decode cX1_add 33 = .ok (.getfield 15, 3) := by decide +kernel
theorem dX1_add_36 : decode cX1_add 36 = .ok (.aload_n 0, 1) := by decide +kernel
theorem dX1_add_37 : decode cX1_add 37 = .ok (.getfield 30, 3) := by decide +kernel
theorem dX1_add_40 : decode cX1_add 40 = .ok (.iload_n 2, 1) := by decide +kernel
theorem dX1_add_41 : decode cX1_add 41 = .ok (.iastore, 1) := by decide +kernel
theorem dX1_add_42 : decode cX1_add 42 = .ok (.aload_n 0, 1) := by decide +kernel
theorem dX1_add_43 : decode cX1_add 43 = .ok (.getfield 18, 3) := by decide +kernel
theorem dX1_add_46 : decode cX1_add 46 = .ok (.aload_n 0, 1) := by decide +kernel
theorem dX1_add_47 : decode cX1_add 47 = .ok (.getfield 30, 3) := by decide +kernel
theorem dX1_add_50 : decode cX1_add 50 = .ok (.iload_n 3, 1) := by decide +kernel
theorem dX1_add_51 : decode cX1_add 51 = .ok (.iastore, 1) := by decide +kernel
theorem dX1_add_52 : decode cX1_add 52 = .ok (.aload_n 0, 1) := by decide +kernel
theorem dX1_add_53 : decode cX1_add 53 = .ok (.getfield 21, 3) := by decide +kernel
theorem dX1_add_56 : decode cX1_add 56 = .ok (.aload_n 0, 1) := by decide +kernel
theorem dX1_add_57 : decode cX1_add 57 = .ok (.getfield 30, 3) := by decide +kernel
theorem dX1_add_60 : decode cX1_add 60 = .ok (.iload 4, 2) := by decide +kernel
theorem dX1_add_62 : decode cX1_add 62 = .ok (.iastore, 1) := by decide +kernel
theorem dX1_add_63 : decode cX1_add 63 = .ok (.aload_n 0, 1) := by decide +kernel
theorem dX1_add_64 : decode cX1_add 64 = .ok (.getfield 24, 3) := by decide +kernel
theorem dX1_add_67 : decode cX1_add 67 = .ok (.aload_n 0, 1) := by decide +kernel
theorem dX1_add_68 : decode cX1_add 68 = .ok (.getfield 30, 3) := by decide +kernel
theorem dX1_add_71 : decode cX1_add 71 = .ok (.iconst 0, 1) := by decide +kernel
theorem dX1_add_72 : decode cX1_add 72 = .ok (.iastore, 1) := by decide +kernel
theorem dX1_add_73 : decode cX1_add 73 = .ok (.aload_n 0, 1) := by decide +kernel
theorem dX1_add_74 : decode cX1_add 74 = .ok (.getfield 27, 3) := by decide +kernel
theorem dX1_add_77 : decode cX1_add 77 = .ok (.aload_n 0, 1) := by decide +kernel
theorem dX1_add_78 : decode cX1_add 78 = .ok (.getfield 30, 3) := by decide +kernel
theorem dX1_add_81 : decode cX1_add 81 = .ok (.iconst (-1), 1) := by decide +kernel
theorem dX1_add_82 : decode cX1_add 82 = .ok (.iastore, 1) := by decide +kernel
theorem dX1_add_83 : decode cX1_add 83 = .ok (.aload_n 0, 1) := by decide +kernel
theorem dX1_add_84 : decode cX1_add 84 = .ok (.dup, 1) := by decide +kernel
theorem dX1_add_85 : decode cX1_add 85 = .ok (.getfield 30, 3) := by decide +kernel
theorem dX1_add_88 : decode cX1_add 88 = .ok (.iconst 1, 1) := by decide +kernel
theorem dX1_add_89 : decode cX1_add 89 = .ok (.iadd, 1) := by decide +kernel
theorem dX1_add_90 : decode cX1_add 90 = .ok (.putfield 30, 3) := by decide +kernel
theorem dX1_add_93 : decode cX1_add 93 = .ok (.aload_n 0, 1) := by decide +kernel
theorem dX1_add_94 : decode cX1_add 94 = .ok (.getfield 30, 3) := by decide +kernel
theorem dX1_add_97 : decode cX1_add 97 = .ok (.iconst 1, 1) := by decide +kernel
theorem dX1_add_98 : decode cX1_add 98 = .ok (.isub, 1) := by decide +kernel
theorem dX1_add_99 : decode cX1_add 99 = .ok (.ireturn, 1) := by decide +kernel
theorem dX1_canBe_0 : decode cX1_canBe 0 = .ok (.iload_n 0, 1) := by decide +kernel
theorem dX1_canBe_1 : decode cX1_canBe 1 = .ok (.ifCond .lt 44, 3) := by decide +kernel
theorem dX1_canBe_4 : decode cX1_canBe 4 = .ok (.iload_n 0, 1) := by decide +kernel
theorem dX1_canBe_5 : decode cX1_canBe 5 = .ok (.bipush 20, 2) := by decide +kernel
theorem dX1_canBe_7 : decode cX1_canBe 7 = .ok (.if_icmp .gt 38, 3) := by decide +kernel
theorem dX1_canBe_10 : decode cX1_canBe 10 = .ok (.iload_n 1, 1) := by decide +kernel
theorem dX1_canBe_11 : decode cX1_canBe 11 = .ok (.ifCond .lt 34, 3) := by decide +kernel
theorem dX1_canBe_14 : decode cX1_canBe 14 = .ok (.iload_n 1, 1) := by decide +kernel
theorem dX1_canBe_15 : decode cX1_canBe 15 = .ok (.bipush 99, 2) := by decide +kernel
theorem dX1_canBe_17 : decode cX1_canBe 17 = .ok (.if_icmp .gt 28, 3) := by decide +kernel
theorem dX1_canBe_20 : decode cX1_canBe 20 = .ok (.iload_n 2, 1) := by decide +kernel
theorem dX1_canBe_21 : decode cX1_canBe 21 = .ok (.bipush 10, 2) := by decide +kernel
theorem dX1_canBe_23 : decode cX1_canBe 23 = .ok (.if_icmp .lt 22, 3) := by decide +kernel
theorem dX1_canBe_26 : decode cX1_canBe 26 = .ok (.iload_n 2, 1) := by decide +kernel
theorem dX1_canBe_27 : decode cX1_canBe 27 = .ok (.bipush 60, 2) := by decide +kernel
theorem dX1_canBe_29 : decode cX1_canBe 29 = .ok (.if_icmp .gt 16, 3) := by decide +kernel
theorem dX1_canBe_32 : decode cX1_canBe 32 = .ok (.iload_n 3, 1) := by decide +kernel
theorem dX1_canBe_33 : decode cX1_canBe 33 = .ok (.ifCond .lt 12, 3) := by decide +kernel
theorem dX1_canBe_36 : decode cX1_canBe 36 = .ok (.iload_n 3, 1) := by decide +kernel
theorem dX1_canBe_37 : decode cX1_canBe 37 = .ok (.iconst 4, 1) := by decide +kernel
theorem dX1_canBe_38 : decode cX1_canBe 38 = .ok (.if_icmp .gt 7, 3) := by decide +kernel
theorem dX1_canBe_41 : decode cX1_canBe 41 = .ok (.iconst 1, 1) := by decide +kernel
theorem dX1_canBe_42 : decode cX1_canBe 42 = .ok (.goto 4, 3) := by decide +kernel
theorem dX1_canBe_45 : decode cX1_canBe 45 = .ok (.iconst 0, 1) := by decide +kernel
theorem dX1_canBe_46 : decode cX1_canBe 46 = .ok (.ireturn, 1) := by decide +kernel
theorem dX1_in_0 : decode cX1_in 0 = .ok (.iconst 0, 1) := by decide +kernel
theorem dX1_in_1 : decode cX1_in 1 = .ok (.istore_n 1, 1) := by decide +kernel
theorem dX1_in_2 : decode cX1_in 2 = .ok (.iconst 0, 1) := by decide +kernel
theorem dX1_in_3 : decode cX1_in 3 = .ok (.istore_n 2, 1) := by decide +kernel
theorem dX1_in_4 : decode cX1_in 4 = .ok (.iload_n 2, 1) := by decide +kernel
theorem dX1_in_5 : decode cX1_in 5 = .ok (.aload_n 0, 1) := by decide +kernel
theorem dX1_in_6 : decode cX1_in 6 = .ok (.getfield 30, 3) := by decide +kernel
theorem dX1_in_9 : decode cX1_in 9 = .ok (.if_icmp .ge 22, 3) := by decide +kernel
theorem dX1_in_12 : decode cX1_in 12 = .ok (.aload_n 0, 1) := by decide +kernel
theorem dX1_in_13 : decode cX1_in 13 = .ok (.getfield 24, 3) := by decide +kernel
theorem dX1_in_16 : decode cX1_in 16 = .ok (.iload_n 2, 1) := by decide +kernel
theorem dX1_in_17 : decode cX1_in 17 = .ok (.iaload, 1) := by decide +kernel
theorem dX1_in_18 : decode cX1_in 18 = .ok (.iconst 1, 1) := by decide +kernel
theorem dX1_in_19 : decode cX1_in 19 = .ok (.if_icmp .ne 6, 3) := by decide +kernel
theorem dX1_in_22 : decode cX1_in 22 = .ok (.iinc 1 1, 3) := by decide +kernel
theorem dX1_in_25 : decode cX1_in 25 = .ok (.iinc 2 1, 3) := by decide +kernel
theorem dX1_in_28 : decode cX1_in 28 = .ok (.goto (-24), 3) := by decide +kernel
theorem dX1_in_31 : decode cX1_in 31 = .ok (.iload_n 1, 1) := by decide +kernel
theorem dX1_in_32 : decode cX1_in 32 = .ok (.ireturn, 1) := by decide +kernel
theorem dX1_grow_0 : decode cX1_grow 0 = .ok (.aload_n 0, 1) := by decide +kernel
theorem dX1_grow_1 : decode cX1_grow 1 = .ok (.iload_n 1, 1) := by decide +kernel
theorem dX1_grow_2 : decode cX1_grow 2 = .ok (.invokevirtual 38, 3) := by decide +kernel
theorem dX1_grow_5 : decode cX1_grow 5 = .ok (.ifCond .eq 46, 3) := by decide +kernel
theorem dX1_grow_8 : decode cX1_grow 8 = .ok (.aload_n 0, 1) := by decide +kernel
theorem dX1_grow_9 : decode cX1_grow 9 = .ok (.getfield 11, 3) := by decide +kernel
theorem dX1_grow_12 : decode cX1_grow 12 = .ok (.iload_n 1, 1) := by decide +kernel
theorem dX1_grow_13 : decode cX1_grow 13 = .ok (.bipush 99, 2) := by decide +kernel
theorem dX1_grow_15 : decode cX1_grow 15 = .ok (.aload_n 0, 1) := by decide +kernel
theorem dX1_grow_16 : decode cX1_grow 16 = .ok (.getfield 11, 3) := by decide +kernel
theorem dX1_grow_19 : decode cX1_grow 19 = .ok (.iload_n 1, 1) := by decide +kernel
theorem dX1_grow_20 : decode cX1_grow 20 = .ok (.iaload, 1) := by decide +kernel
theorem dX1_grow_21 : decode cX1_grow 21 = .ok (.iconst 1, 1) := by decide +kernel
theorem dX1_grow_22 : decode cX1_grow 22 = .ok (.iadd, 1) := by decide +kernel
theorem dX1_grow_23 : decode cX1_grow 23 = .ok (.invokestatic 42, 3) := by decide +kernel
theorem dX1_grow_26 : decode cX1_grow 26 = .ok (.iastore, 1) := by decide +kernel
theorem dX1_grow_27 : decode cX1_grow 27 = .ok (.aload_n 0, 1) := by decide +kernel
theorem dX1_grow_28 : decode cX1_grow 28 = .ok (.getfield 18, 3) := by decide +kernel
theorem dX1_grow_31 : decode cX1_grow 31 = .ok (.iload_n 1, 1) := by decide +kernel
theorem dX1_grow_32 : decode cX1_grow 32 = .ok (.bipush 99, 2) := by decide +kernel
theorem dX1_grow_34 : decode cX1_grow 34 = .ok (.aload_n 0, 1) := by decide +kernel
theorem dX1_grow_35 : decode cX1_grow 35 = .ok (.getfield 18, 3) := by decide +kernel
theorem dX1_grow_38 : decode cX1_grow 38 = .ok (.iload_n 1, 1) := by decide +kernel
theorem dX1_grow_39 : decode cX1_grow 39 = .ok (.iaload, 1) := by decide +kernel
theorem dX1_grow_40 : decode cX1_grow 40 = .ok (.aload_n 0, 1) := by decide +kernel
theorem dX1_grow_41 : decode cX1_grow 41 = .ok (.getfield 21, 3) := by decide +kernel
theorem dX1_grow_44 : decode cX1_grow 44 = .ok (.iload_n 1, 1) := by decide +kernel
theorem dX1_grow_45 : decode cX1_grow 45 = .ok (.iaload, 1) := by decide +kernel
theorem dX1_grow_46 : decode cX1_grow 46 = .ok (.iadd, 1) := by decide +kernel
theorem dX1_grow_47 : decode cX1_grow 47 = .ok (.invokestatic 42, 3) := by decide +kernel
theorem dX1_grow_50 : decode cX1_grow 50 = .ok (.iastore, 1) := by decide +kernel
theorem dX1_grow_51 : decode cX1_grow 51 = .ok (.return_, 1) := by decide +kernel
theorem dX2_init_0 : decode cX2_init 0 = .ok (.aload_n 0, 1) := by decide +kernel
theorem dX2_init_1 : decode cX2_init 1 = .ok (.invokespecial 3, 3) := by decide +kernel
theorem dX2_init_4 : decode cX2_init 4 = .ok (.aload_n 0, 1) := by decide +kernel
theorem dX2_init_5 : decode cX2_init 5 = .ok (.bipush 8, 2) := by decide +kernel
theorem dX2_init_7 : decode cX2_init 7 = .ok (.newarray .int, 2) := by decide +kernel
theorem dX2_init_9 : decode cX2_init 9 = .ok (.putfield 11, 3) := by decide +kernel
theorem dX2_init_12 : decode cX2_init 12 = .ok (.aload_n 0, 1) := by decide +kernel
theorem dX2_init_13 : decode cX2_init 13 = .ok (.bipush 8, 2) := by decide +kernel
theorem dX2_init_15 : decode cX2_init 15 = .ok (.newarray .int, 2) := by decide +kernel
theorem dX2_init_17 : decode cX2_init 17 = .ok (.putfield 15, 3) := by decide +kernel
theorem dX2_init_20 : decode cX2_init 20 = .ok (.aload_n 0, 1) := by decide +kernel
theorem dX2_init_21 : decode cX2_init 21 = .ok (.bipush 8, 2) := by decide +kernel
theorem dX2_init_23 : decode cX2_init 23 = .ok (.newarray .int, 2) := by decide +kernel
theorem dX2_init_25 : decode cX2_init 25 = .ok (.putfield 18, 3) := by decide +kernel
theorem dX2_init_28 : decode cX2_init 28 = .ok (.aload_n 0, 1) := by decide +kernel
theorem dX2_init_29 : decode cX2_init 29 = .ok (.sipush 256, 3) := by decide +kernel
theorem dX2_init_32 : decode cX2_init 32 = .ok (.newarray .long, 2) := by decide +kernel
theorem dX2_init_34 : decode cX2_init 34 = .ok (.putfield 21, 3) := by decide +kernel
theorem dX2_init_37 : decode cX2_init 37 = .ok (.return_, 1) := by decide +kernel
theorem dX2_plan_0 : decode cX2_plan 0 = .ok (.aload_n 0, 1) := by decide +kernel
theorem dX2_plan_1 : decode cX2_plan 1 = .ok (.aload_n 1, 1) := by decide +kernel
theorem dX2_plan_2 : decode cX2_plan 2 = .ok (.invokevirtual 25, 3) := by decide +kernel
theorem dX2_plan_5 : decode cX2_plan 5 = .ok (.aload_n 0, 1) := by decide +kernel
theorem dX2_plan_6 : decode cX2_plan 6 = .ok (.aload_n 2, 1) := by decide +kernel
theorem dX2_plan_7 : decode cX2_plan 7 = .ok (.iload_n 3, 1) := by decide +kernel
theorem dX2_plan_8 : decode cX2_plan 8 = .ok (.invokevirtual 29, 3) := by decide +kernel
theorem dX2_plan_11 : decode cX2_plan 11 = .ok (.aload_n 0, 1) := by decide +kernel
theorem dX2_plan_12 : decode cX2_plan 12 = .ok (.invokevirtual 33, 3) := by decide +kernel
theorem dX2_plan_15 : decode cX2_plan 15 = .ok (.aload_n 0, 1) := by decide +kernel
theorem dX2_plan_16 : decode cX2_plan 16 = .ok (.invokevirtual 36, 3) := by decide +kernel
theorem dX2_plan_19 : decode cX2_plan 19 = .ok (.return_, 1) := by decide +kernel
theorem dX2_newCoats_0 : decode cX2_newCoats 0 = .ok (.aload_n 0, 1) := by decide +kernel
theorem dX2_newCoats_1 : decode cX2_newCoats 1 = .ok (.getfield 39, 3) := by decide +kernel
theorem dX2_newCoats_4 : decode cX2_newCoats 4 = .ok (.aload_n 0, 1) := by decide +kernel
theorem dX2_newCoats_5 : decode cX2_newCoats 5 = .ok (.getfield 43, 3) := by decide +kernel
theorem dX2_newCoats_8 : decode cX2_newCoats 8 = .ok (.invokestatic 46, 3) := by decide +kernel
theorem dX2_newCoats_11 : decode cX2_newCoats 11 = .ok (.isub, 1) := by decide +kernel
theorem dX2_newCoats_12 : decode cX2_newCoats 12 = .ok (.ireturn, 1) := by decide +kernel
theorem dX2_gather_0 : decode cX2_gather 0 = .ok (.aload_n 0, 1) := by decide +kernel
theorem dX2_gather_1 : decode cX2_gather 1 = .ok (.iconst 0, 1) := by decide +kernel
theorem dX2_gather_2 : decode cX2_gather 2 = .ok (.putfield 39, 3) := by decide +kernel
theorem dX2_gather_5 : decode cX2_gather 5 = .ok (.iconst 0, 1) := by decide +kernel
theorem dX2_gather_6 : decode cX2_gather 6 = .ok (.istore_n 2, 1) := by decide +kernel
theorem dX2_gather_7 : decode cX2_gather 7 = .ok (.iload_n 2, 1) := by decide +kernel
theorem dX2_gather_8 : decode cX2_gather 8 = .ok (.aload_n 1, 1) := by decide +kernel
theorem dX2_gather_9 : decode cX2_gather 9 = .ok (.getfield 52, 3) := by decide +kernel
theorem dX2_gather_12 : decode cX2_gather 12 = .ok (.if_icmp .ge 63, 3) := by decide +kernel
theorem dX2_gather_15 : decode cX2_gather 15 = .ok (.aload_n 0, 1) := by decide +kernel
theorem dX2_gather_16 : decode cX2_gather 16 = .ok (.getfield 39, 3) := by decide +kernel
theorem dX2_gather_19 : decode cX2_gather 19 = .ok (.bipush 8, 2) := by decide +kernel
theorem dX2_gather_21 : decode cX2_gather 21 = .ok (.if_icmp .ge 54, 3) := by decide +kernel
theorem dX2_gather_24 : decode cX2_gather 24 = .ok (.aload_n 1, 1) := by decide +kernel
theorem dX2_gather_25 : decode cX2_gather 25 = .ok (.getfield 57, 3) := by decide +kernel
theorem dX2_gather_28 : decode cX2_gather 28 = .ok (.iload_n 2, 1) := by decide +kernel
theorem dX2_gather_29 : decode cX2_gather 29 = .ok (.iaload, 1) := by decide +kernel
theorem dX2_gather_30 : decode cX2_gather 30 = .ok (.iconst 1, 1) := by decide +kernel
theorem dX2_gather_31 : decode cX2_gather 31 = .ok (.if_icmp .ne 38, 3) := by decide +kernel
theorem dX2_gather_34 : decode cX2_gather 34 = .ok (.aload_n 0, 1) := by decide +kernel
theorem dX2_gather_35 : decode cX2_gather 35 = .ok (.getfield 11, 3) := by decide +kernel
theorem dX2_gather_38 : decode cX2_gather 38 = .ok (.aload_n 0, 1) := by decide +kernel
theorem dX2_gather_39 : decode cX2_gather 39 = .ok (.getfield 39, 3) := by decide +kernel
theorem dX2_gather_42 : decode cX2_gather 42 = .ok (.iload_n 2, 1) := by decide +kernel
theorem dX2_gather_43 : decode cX2_gather 43 = .ok (.iastore, 1) := by decide +kernel
theorem dX2_gather_44 : decode cX2_gather 44 = .ok (.aload_n 0, 1) := by decide +kernel
theorem dX2_gather_45 : decode cX2_gather 45 = .ok (.getfield 18, 3) := by decide +kernel
theorem dX2_gather_48 : decode cX2_gather 48 = .ok (.aload_n 0, 1) := by decide +kernel
theorem dX2_gather_49 : decode cX2_gather 49 = .ok (.getfield 39, 3) := by decide +kernel
theorem dX2_gather_52 : decode cX2_gather 52 = .ok (.aload_n 1, 1) := by decide +kernel
theorem dX2_gather_53 : decode cX2_gather 53 = .ok (.getfield 60, 3) := by decide +kernel
theorem dX2_gather_56 : decode cX2_gather 56 = .ok (.iload_n 2, 1) := by decide +kernel
theorem dX2_gather_57 : decode cX2_gather 57 = .ok (.iaload, 1) := by decide +kernel
theorem dX2_gather_58 : decode cX2_gather 58 = .ok (.iastore, 1) := by decide +kernel
theorem dX2_gather_59 : decode cX2_gather 59 = .ok (.aload_n 0, 1) := by decide +kernel
theorem dX2_gather_60 : decode cX2_gather 60 = .ok (.dup, 1) := by decide +kernel
theorem dX2_gather_61 : decode cX2_gather 61 = .ok (.getfield 39, 3) := by decide +kernel
theorem dX2_gather_64 : decode cX2_gather 64 = .ok (.iconst 1, 1) := by decide +kernel
theorem dX2_gather_65 : decode cX2_gather 65 = .ok (.iadd, 1) := by decide +kernel
theorem dX2_gather_66 : decode cX2_gather 66 = .ok (.putfield 39, 3) := by decide +kernel
theorem dX2_gather_69 : decode cX2_gather 69 = .ok (.iinc 2 1, 3) := by decide +kernel
theorem dX2_gather_72 : decode cX2_gather 72 = .ok (.goto (-65), 3) := by decide +kernel
theorem dX2_gather_75 : decode cX2_gather 75 = .ok (.return_, 1) := by decide +kernel
theorem dX2_measure_0 : decode cX2_measure 0 = .ok (.aload_n 0, 1) := by decide +kernel
theorem dX2_measure_1 : decode cX2_measure 1 = .ok (.getfield 21, 3) := by decide +kernel
theorem dX2_measure_4 : decode cX2_measure 4 = .ok (.iconst 0, 1) := by decide +kernel
theorem dX2_measure_5 : decode cX2_measure 5 = .ok (.lconst 0, 1) := by decide +kernel
theorem dX2_measure_6 : decode cX2_measure 6 = .ok (.lastore, 1) := by decide +kernel
theorem dX2_measure_7 : decode cX2_measure 7 = .ok (.iconst 0, 1) := by decide +kernel
theorem dX2_measure_8 : decode cX2_measure 8 = .ok (.istore_n 3, 1) := by decide +kernel
theorem dX2_measure_9 : decode cX2_measure 9 = .ok (.iload_n 3, 1) := by decide +kernel
theorem dX2_measure_10 : decode cX2_measure 10 = .ok (.aload_n 0, 1) := by decide +kernel
theorem dX2_measure_11 : decode cX2_measure 11 = .ok (.getfield 39, 3) := by decide +kernel
theorem dX2_measure_14 : decode cX2_measure 14 = .ok (.if_icmp .ge 60, 3) := by decide +kernel
theorem dX2_measure_17 : decode cX2_measure 17 = .ok (.aload_n 1, 1) := by decide +kernel
theorem dX2_measure_18 : decode cX2_measure 18 = .ok (.aload_n 0, 1) := by decide +kernel
theorem dX2_measure_19 : decode cX2_measure 19 = .ok (.getfield 18, 3) := by decide +kernel
theorem dX2_measure_22 : decode cX2_measure 22 = .ok (.iload_n 3, 1) := by decide +kernel
theorem dX2_measure_23 : decode cX2_measure 23 = .ok (.iaload, 1) := by decide +kernel
theorem dX2_measure_24 : decode cX2_measure 24 = .ok (.iload_n 2, 1) := by decide +kernel
theorem dX2_measure_25 : decode cX2_measure 25 = .ok (.invokevirtual 61, 3) := by decide +kernel
theorem dX2_measure_28 : decode cX2_measure 28 = .ok (.lstore 4, 2) := by decide +kernel
theorem dX2_measure_30 : decode cX2_measure 30 = .ok (.iconst 0, 1) := by decide +kernel
theorem dX2_measure_31 : decode cX2_measure 31 = .ok (.istore 6, 2) := by decide +kernel
theorem dX2_measure_33 : decode cX2_measure 33 = .ok (.iload 6, 2) := by decide +kernel
theorem dX2_measure_35 : decode cX2_measure 35 = .ok (.iconst 1, 1) := by decide +kernel
theorem dX2_measure_36 : decode cX2_measure 36 = .ok (.iload_n 3, 1) := by decide +kernel
theorem dX2_measure_37 : decode cX2_measure 37 = .ok (.ishl, 1) := by decide +kernel
theorem dX2_measure_38 : decode cX2_measure 38 = .ok (.if_icmp .ge 30, 3) := by decide +kernel
theorem dX2_measure_41 : decode cX2_measure 41 = .ok (.aload_n 0, 1) := by decide +kernel
theorem dX2_measure_42 : decode cX2_measure 42 = .ok (.getfield 21, 3) := by decide +kernel
theorem dX2_measure_45 : decode cX2_measure 45 = .ok (.iload 6, 2) := by decide +kernel
theorem dX2_measure_47 : decode cX2_measure 47 = .ok (.iconst 1, 1) := by decide +kernel
theorem dX2_measure_48 : decode cX2_measure 48 = .ok (.iload_n 3, 1) := by decide +kernel
theorem dX2_measure_49 : decode cX2_measure 49 = .ok (.ishl, 1) := by decide +kernel
theorem dX2_measure_50 : decode cX2_measure 50 = .ok (.ior, 1) := by decide +kernel
theorem dX2_measure_51 : decode cX2_measure 51 = .ok (.aload_n 0, 1) := by decide +kernel
theorem dX2_measure_52 : decode cX2_measure 52 = .ok (.getfield 21, 3) := by decide +kernel
theorem dX2_measure_55 : decode cX2_measure 55 = .ok (.iload 6, 2) := by decide +kernel
theorem dX2_measure_57 : decode cX2_measure 57 = .ok (.laload, 1) := by decide +kernel
theorem dX2_measure_58 : decode cX2_measure 58 = .ok (.lload 4, 2) := by decide +kernel
theorem dX2_measure_60 : decode cX2_measure 60 = .ok (.lor, 1) := by decide +kernel
theorem dX2_measure_61 : decode cX2_measure 61 = .ok (.lastore, 1) := by decide +kernel
theorem dX2_measure_62 : decode cX2_measure 62 = .ok (.iinc 6 1, 3) := by decide +kernel
theorem dX2_measure_65 : decode cX2_measure 65 = .ok (.goto (-32), 3) := by decide +kernel
theorem dX2_measure_68 : decode cX2_measure 68 = .ok (.iinc 3 1, 3) := by decide +kernel
theorem dX2_measure_71 : decode cX2_measure 71 = .ok (.goto (-62), 3) := by decide +kernel
theorem dX2_measure_74 : decode cX2_measure 74 = .ok (.return_, 1) := by decide +kernel
theorem dX2_chooseDressed_0 : decode cX2_chooseDressed 0 = .ok (.aload_n 0, 1) := by decide +kernel
theorem dX2_chooseDressed_1 : decode cX2_chooseDressed 1 = .ok (.iconst 0, 1) := by decide +kernel
theorem dX2_chooseDressed_2 : decode cX2_chooseDressed 2 = .ok (.putfield 43, 3) := by decide +kernel
theorem dX2_chooseDressed_5 : decode cX2_chooseDressed 5 = .ok (.iconst 0, 1) := by decide +kernel
theorem dX2_chooseDressed_6 : decode cX2_chooseDressed 6 = .ok (.istore_n 1, 1) := by decide +kernel
theorem dX2_chooseDressed_7 : decode cX2_chooseDressed 7 = .ok (.iconst 0, 1) := by decide +kernel
theorem dX2_chooseDressed_8 : decode cX2_chooseDressed 8 = .ok (.istore_n 2, 1) := by decide +kernel
theorem dX2_chooseDressed_9 : decode cX2_chooseDressed 9 = .ok (.iload_n 2, 1) := by decide +kernel
theorem dX2_chooseDressed_10 : decode cX2_chooseDressed 10 = .ok (.aload_n 0, 1) := by decide +kernel
theorem dX2_chooseDressed_11 : decode cX2_chooseDressed 11 = .ok (.getfield 39, 3) := by decide +kernel
theorem dX2_chooseDressed_14 : decode cX2_chooseDressed 14 = .ok (.if_icmp .ge 48, 3) := by decide +kernel
theorem dX2_chooseDressed_17 : decode cX2_chooseDressed 17 = .ok (.aload_n 0, 1) := by decide +kernel
theorem dX2_chooseDressed_18 : decode cX2_chooseDressed 18 = .ok (.iload_n 1, 1) := by decide +kernel
theorem dX2_chooseDressed_19 : decode cX2_chooseDressed 19 = .ok (.invokevirtual 66, 3) := by decide +kernel
theorem dX2_chooseDressed_22 : decode cX2_chooseDressed 22 = .ok (.istore_n 3, 1) := by decide +kernel
theorem dX2_chooseDressed_23 : decode cX2_chooseDressed 23 = .ok (.iload_n 1, 1) := by decide +kernel
theorem dX2_chooseDressed_24 : decode cX2_chooseDressed 24 = .ok (.iconst 1, 1) := by decide +kernel
theorem dX2_chooseDressed_25 : decode cX2_chooseDressed 25 = .ok (.iload_n 3, 1) := by decide +kernel
theorem dX2_chooseDressed_26 : decode cX2_chooseDressed 26 = .ok (.ishl, 1) := by decide +kernel
theorem dX2_chooseDressed_27 : decode cX2_chooseDressed 27 = .ok (.ior, 1) := by decide +kernel
theorem dX2_chooseDressed_28 : decode cX2_chooseDressed 28 = .ok (.istore_n 1, 1) := by decide +kernel
theorem dX2_chooseDressed_29 : decode cX2_chooseDressed 29 = .ok (.aload_n 0, 1) := by decide +kernel
theorem dX2_chooseDressed_30 : decode cX2_chooseDressed 30 = .ok (.aload_n 0, 1) := by decide +kernel
theorem dX2_chooseDressed_31 : decode cX2_chooseDressed 31 = .ok (.getfield 43, 3) := by decide +kernel
theorem dX2_chooseDressed_34 : decode cX2_chooseDressed 34 = .ok (.iconst 1, 1) := by decide +kernel
theorem dX2_chooseDressed_35 : decode cX2_chooseDressed 35 = .ok (.iload_n 3, 1) := by decide +kernel
theorem dX2_chooseDressed_36 : decode cX2_chooseDressed 36 = .ok (.ishl, 1) := by decide +kernel
theorem dX2_chooseDressed_37 : decode cX2_chooseDressed 37 = .ok (.ior, 1) := by decide +kernel
theorem dX2_chooseDressed_38 : decode cX2_chooseDressed 38 = .ok (.invokevirtual 69, 3) := by decide +kernel
theorem dX2_chooseDressed_41 : decode cX2_chooseDressed 41 = .ok (.ifCond .eq 15, 3) := by decide +kernel
theorem dX2_chooseDressed_44 : decode cX2_chooseDressed 44 = .ok (.aload_n 0, 1) := by decide +kernel
theorem dX2_chooseDressed_45 : decode cX2_chooseDressed 45 = .ok (.dup, 1) := by decide +kernel
theorem dX2_chooseDressed_46 : decode cX2_chooseDressed 46 = .ok (.getfield 43, 3) := by decide +kernel
theorem dX2_chooseDressed_49 : decode cX2_chooseDressed 49 = .ok (.iconst 1, 1) := by decide +kernel
theorem dX2_chooseDressed_50 : decode cX2_chooseDressed 50 = .ok (.iload_n 3, 1) := by decide +kernel
theorem dX2_chooseDressed_51 : decode cX2_chooseDressed 51 = .ok (.ishl, 1) := by decide +kernel
theorem dX2_chooseDressed_52 : decode cX2_chooseDressed 52 = .ok (.ior, 1) := by decide +kernel
theorem dX2_chooseDressed_53 : decode cX2_chooseDressed 53 = .ok (.putfield 43, 3) := by decide +kernel
theorem dX2_chooseDressed_56 : decode cX2_chooseDressed 56 = .ok (.iinc 2 1, 3) := by decide +kernel
theorem dX2_chooseDressed_59 : decode cX2_chooseDressed 59 = .ok (.goto (-50), 3) := by decide +kernel
theorem dX2_chooseDressed_62 : decode cX2_chooseDressed 62 = .ok (.return_, 1) := by decide +kernel
theorem dX2_greatestBut_0 : decode cX2_greatestBut 0 = .ok (.iconst 0, 1) := by decide +kernel
theorem dX2_greatestBut_1 : decode cX2_greatestBut 1 = .ok (.istore_n 2, 1) := by decide +kernel
theorem dX2_greatestBut_2 : decode cX2_greatestBut 2 = .ok (.iconst (-1), 1) := by decide +kernel
theorem dX2_greatestBut_3 : decode cX2_greatestBut 3 = .ok (.istore_n 3, 1) := by decide +kernel
theorem dX2_greatestBut_4 : decode cX2_greatestBut 4 = .ok (.iconst 0, 1) := by decide +kernel
theorem dX2_greatestBut_5 : decode cX2_greatestBut 5 = .ok (.istore 4, 2) := by decide +kernel
theorem dX2_greatestBut_7 : decode cX2_greatestBut 7 = .ok (.iload 4, 2) := by decide +kernel
theorem dX2_greatestBut_9 : decode cX2_greatestBut 9 = .ok (.aload_n 0, 1) := by decide +kernel
theorem dX2_greatestBut_10 : decode cX2_greatestBut 10 = .ok (.getfield 39, 3) := by decide +kernel
theorem dX2_greatestBut_13 : decode cX2_greatestBut 13 = .ok (.if_icmp .ge 40, 3) := by decide +kernel
theorem dX2_greatestBut_16 : decode cX2_greatestBut 16 = .ok (.iload_n 1, 1) := by decide +kernel
theorem dX2_greatestBut_17 : decode cX2_greatestBut 17 = .ok (.iconst 1, 1) := by decide +kernel
theorem dX2_greatestBut_18 : decode cX2_greatestBut 18 = .ok (.iload 4, 2) := by decide +kernel
theorem dX2_greatestBut_20 : decode cX2_greatestBut 20 = .ok (.ishl, 1) := by decide +kernel
theorem dX2_greatestBut_21 : decode cX2_greatestBut 21 = .ok (.iand, 1) := by decide +kernel
theorem dX2_greatestBut_22 : decode cX2_greatestBut 22 = .ok (.ifCond .ne 25, 3) := by decide +kernel
theorem dX2_greatestBut_25 : decode cX2_greatestBut 25 = .ok (.aload_n 0, 1) := by decide +kernel
theorem dX2_greatestBut_26 : decode cX2_greatestBut 26 = .ok (.getfield 18, 3) := by decide +kernel
theorem dX2_greatestBut_29 : decode cX2_greatestBut 29 = .ok (.iload 4, 2) := by decide +kernel
theorem dX2_greatestBut_31 : decode cX2_greatestBut 31 = .ok (.iaload, 1) := by decide +kernel
theorem dX2_greatestBut_32 : decode cX2_greatestBut 32 = .ok (.iload_n 3, 1) := by decide +kernel
theorem dX2_greatestBut_33 : decode cX2_greatestBut 33 = .ok (.if_icmp .le 14, 3) := by decide +kernel
theorem dX2_greatestBut_36 : decode cX2_greatestBut 36 = .ok (.iload 4, 2) := by decide +kernel
theorem dX2_greatestBut_38 : decode cX2_greatestBut 38 = .ok (.istore_n 2, 1) := by decide +kernel
theorem dX2_greatestBut_39 : decode cX2_greatestBut 39 = .ok (.aload_n 0, 1) := by decide +kernel
theorem dX2_greatestBut_40 : decode cX2_greatestBut 40 = .ok (.getfield 18, 3) := by decide +kernel
theorem dX2_greatestBut_43 : decode cX2_greatestBut 43 = .ok (.iload 4, 2) := by decide +kernel
theorem dX2_greatestBut_45 : decode cX2_greatestBut 45 = .ok (.iaload, 1) := by decide +kernel
theorem dX2_greatestBut_46 : decode cX2_greatestBut 46 = .ok (.istore_n 3, 1) := by decide +kernel
theorem dX2_greatestBut_47 : decode cX2_greatestBut 47 = .ok (.iinc 4 1, 3) := by decide +kernel
theorem dX2_greatestBut_50 : decode cX2_greatestBut 50 = .ok (.goto (-43), 3) := by decide +kernel
theorem dX2_greatestBut_53 : decode cX2_greatestBut 53 = .ok (.iload_n 2, 1) := by decide +kernel
theorem dX2_greatestBut_54 : decode cX2_greatestBut 54 = .ok (.ireturn, 1) := by decide +kernel
theorem dX2_canDress_0 : decode cX2_canDress 0 = .ok (.iconst 1, 1) := by decide +kernel
theorem dX2_canDress_1 : decode cX2_canDress 1 = .ok (.istore_n 2, 1) := by decide +kernel
theorem dX2_canDress_2 : decode cX2_canDress 2 = .ok (.iload_n 2, 1) := by decide +kernel
theorem dX2_canDress_3 : decode cX2_canDress 3 = .ok (.iconst 1, 1) := by decide +kernel
theorem dX2_canDress_4 : decode cX2_canDress 4 = .ok (.aload_n 0, 1) := by decide +kernel
theorem dX2_canDress_5 : decode cX2_canDress 5 = .ok (.getfield 39, 3) := by decide +kernel
theorem dX2_canDress_8 : decode cX2_canDress 8 = .ok (.ishl, 1) := by decide +kernel
theorem dX2_canDress_9 : decode cX2_canDress 9 = .ok (.if_icmp .ge 35, 3) := by decide +kernel
theorem dX2_canDress_12 : decode cX2_canDress 12 = .ok (.iload_n 2, 1) := by decide +kernel
theorem dX2_canDress_13 : decode cX2_canDress 13 = .ok (.iload_n 1, 1) := by decide +kernel
theorem dX2_canDress_14 : decode cX2_canDress 14 = .ok (.iconst (-1), 1) := by decide +kernel
theorem dX2_canDress_15 : decode cX2_canDress 15 = .ok (.ixor, 1) := by decide +kernel
theorem dX2_canDress_16 : decode cX2_canDress 16 = .ok (.iand, 1) := by decide +kernel
theorem dX2_canDress_17 : decode cX2_canDress 17 = .ok (.ifCond .ne 21, 3) := by decide +kernel
theorem dX2_canDress_20 : decode cX2_canDress 20 = .ok (.aload_n 0, 1) := by decide +kernel
theorem dX2_canDress_21 : decode cX2_canDress 21 = .ok (.getfield 21, 3) := by decide +kernel
theorem dX2_canDress_24 : decode cX2_canDress 24 = .ok (.iload_n 2, 1) := by decide +kernel
theorem dX2_canDress_25 : decode cX2_canDress 25 = .ok (.laload, 1) := by decide +kernel
theorem dX2_canDress_26 : decode cX2_canDress 26 = .ok (.invokestatic 73, 3) := by decide +kernel
theorem dX2_canDress_29 : decode cX2_canDress 29 = .ok (.iload_n 2, 1) := by decide +kernel
theorem dX2_canDress_30 : decode cX2_canDress 30 = .ok (.invokestatic 46, 3) := by decide +kernel
theorem dX2_canDress_33 : decode cX2_canDress 33 = .ok (.if_icmp .ge 5, 3) := by decide +kernel
theorem dX2_canDress_36 : decode cX2_canDress 36 = .ok (.iconst 0, 1) := by decide +kernel
theorem dX2_canDress_37 : decode cX2_canDress 37 = .ok (.ireturn, 1) := by decide +kernel
theorem dX2_canDress_38 : decode cX2_canDress 38 = .ok (.iinc 2 1, 3) := by decide +kernel
theorem dX2_canDress_41 : decode cX2_canDress 41 = .ok (.goto (-39), 3) := by decide +kernel
theorem dX2_canDress_44 : decode cX2_canDress 44 = .ok (.iconst 1, 1) := by decide +kernel
theorem dX2_canDress_45 : decode cX2_canDress 45 = .ok (.ireturn, 1) := by decide +kernel
theorem dX2_chooseCoats_0 : decode cX2_chooseCoats 0 = .ok (.aload_n 0, 1) := by decide +kernel
theorem dX2_chooseCoats_1 : decode cX2_chooseCoats 1 = .ok (.getfield 21, 3) := by decide +kernel
theorem dX2_chooseCoats_4 : decode cX2_chooseCoats 4 = .ok (.iconst 1, 1) := by decide +kernel
theorem dX2_chooseCoats_5 : decode cX2_chooseCoats 5 = .ok (.aload_n 0, 1) := by decide +kernel
theorem dX2_chooseCoats_6 : decode cX2_chooseCoats 6 = .ok (.getfield 39, 3) := by decide +kernel
theorem dX2_chooseCoats_9 : decode cX2_chooseCoats 9 = .ok (.ishl, 1) := by decide +kernel
theorem dX2_chooseCoats_10 : decode cX2_chooseCoats 10 = .ok (.iconst 1, 1) := by decide +kernel
theorem dX2_chooseCoats_11 : decode cX2_chooseCoats 11 = .ok (.isub, 1) := by decide +kernel
theorem dX2_chooseCoats_12 : decode cX2_chooseCoats 12 = .ok (.laload, 1) := by decide +kernel
theorem dX2_chooseCoats_13 : decode cX2_chooseCoats 13 = .ok (.lstore_n 1, 1) := by decide +kernel
theorem dX2_chooseCoats_14 : decode cX2_chooseCoats 14 = .ok (.iconst 0, 1) := by decide +kernel
theorem dX2_chooseCoats_15 : decode cX2_chooseCoats 15 = .ok (.istore_n 3, 1) := by decide +kernel
theorem dX2_chooseCoats_16 : decode cX2_chooseCoats 16 = .ok (.iload_n 3, 1) := by decide +kernel
theorem dX2_chooseCoats_17 : decode cX2_chooseCoats 17 = .ok (.aload_n 0, 1) := by decide +kernel
theorem dX2_chooseCoats_18 : decode cX2_chooseCoats 18 = .ok (.getfield 39, 3) := by decide +kernel
theorem dX2_chooseCoats_21 : decode cX2_chooseCoats 21 = .ok (.if_icmp .ge 86, 3) := by decide +kernel
theorem dX2_chooseCoats_24 : decode cX2_chooseCoats 24 = .ok (.aload_n 0, 1) := by decide +kernel
theorem dX2_chooseCoats_25 : decode cX2_chooseCoats 25 = .ok (.getfield 15, 3) := by decide +kernel
theorem dX2_chooseCoats_28 : decode cX2_chooseCoats 28 = .ok (.iload_n 3, 1) := by decide +kernel
theorem dX2_chooseCoats_29 : decode cX2_chooseCoats 29 = .ok (.iconst (-1), 1) := by decide +kernel
theorem dX2_chooseCoats_30 : decode cX2_chooseCoats 30 = .ok (.iastore, 1) := by decide +kernel
theorem dX2_chooseCoats_31 : decode cX2_chooseCoats 31 = .ok (.aload_n 0, 1) := by decide +kernel
theorem dX2_chooseCoats_32 : decode cX2_chooseCoats 32 = .ok (.getfield 43, 3) := by decide +kernel
theorem dX2_chooseCoats_35 : decode cX2_chooseCoats 35 = .ok (.iconst 1, 1) := by decide +kernel
theorem dX2_chooseCoats_36 : decode cX2_chooseCoats 36 = .ok (.iload_n 3, 1) := by decide +kernel
theorem dX2_chooseCoats_37 : decode cX2_chooseCoats 37 = .ok (.ishl, 1) := by decide +kernel
theorem dX2_chooseCoats_38 : decode cX2_chooseCoats 38 = .ok (.iand, 1) := by decide +kernel
theorem dX2_chooseCoats_39 : decode cX2_chooseCoats 39 = .ok (.ifCond .eq 62, 3) := by decide +kernel
theorem dX2_chooseCoats_42 : decode cX2_chooseCoats 42 = .ok (.aload_n 0, 1) := by decide +kernel
theorem dX2_chooseCoats_43 : decode cX2_chooseCoats 43 = .ok (.getfield 43, 3) := by decide +kernel
theorem dX2_chooseCoats_46 : decode cX2_chooseCoats 46 = .ok (.iconst 2, 1) := by decide +kernel
theorem dX2_chooseCoats_47 : decode cX2_chooseCoats 47 = .ok (.iload_n 3, 1) := by decide +kernel
theorem dX2_chooseCoats_48 : decode cX2_chooseCoats 48 = .ok (.ishl, 1) := by decide +kernel
theorem dX2_chooseCoats_49 : decode cX2_chooseCoats 49 = .ok (.ineg, 1) := by decide +kernel
theorem dX2_chooseCoats_50 : decode cX2_chooseCoats 50 = .ok (.iand, 1) := by decide +kernel
theorem dX2_chooseCoats_51 : decode cX2_chooseCoats 51 = .ok (.istore 4, 2) := by decide +kernel
theorem dX2_chooseCoats_53 : decode cX2_chooseCoats 53 = .ok (.aload_n 0, 1) := by decide +kernel
theorem dX2_chooseCoats_54 : decode cX2_chooseCoats 54 = .ok (.getfield 21, 3) := by decide +kernel
theorem dX2_chooseCoats_57 : decode cX2_chooseCoats 57 = .ok (.iconst 1, 1) := by decide +kernel
theorem dX2_chooseCoats_58 : decode cX2_chooseCoats 58 = .ok (.iload_n 3, 1) := by decide +kernel
theorem dX2_chooseCoats_59 : decode cX2_chooseCoats 59 = .ok (.ishl, 1) := by decide +kernel
theorem dX2_chooseCoats_60 : decode cX2_chooseCoats 60 = .ok (.laload, 1) := by decide +kernel
theorem dX2_chooseCoats_61 : decode cX2_chooseCoats 61 = .ok (.lload_n 1, 1) := by decide +kernel
theorem dX2_chooseCoats_62 : decode cX2_chooseCoats 62 = .ok (.land, 1) := by decide +kernel
theorem dX2_chooseCoats_63 : decode cX2_chooseCoats 63 = .ok (.aload_n 0, 1) := by decide +kernel
theorem dX2_chooseCoats_64 : decode cX2_chooseCoats 64 = .ok (.iload 4, 2) := by decide +kernel
theorem dX2_chooseCoats_66 : decode cX2_chooseCoats 66 = .ok (.lload_n 1, 1) := by decide +kernel
theorem dX2_chooseCoats_67 : decode cX2_chooseCoats 67 = .ok (.invokevirtual 78, 3) := by decide +kernel
theorem dX2_chooseCoats_70 : decode cX2_chooseCoats 70 = .ok (.ldc2_w 82, 3) := by decide +kernel
theorem dX2_chooseCoats_73 : decode cX2_chooseCoats 73 = .ok (.lxor, 1) := by decide +kernel
theorem dX2_chooseCoats_74 : decode cX2_chooseCoats 74 = .ok (.land, 1) := by decide +kernel
theorem dX2_chooseCoats_75 : decode cX2_chooseCoats 75 = .ok (.lstore 5, 2) := by decide +kernel
theorem dX2_chooseCoats_77 : decode cX2_chooseCoats 77 = .ok (.aload_n 0, 1) := by decide +kernel
theorem dX2_chooseCoats_78 : decode cX2_chooseCoats 78 = .ok (.getfield 15, 3) := by decide +kernel
theorem dX2_chooseCoats_81 : decode cX2_chooseCoats 81 = .ok (.iload_n 3, 1) := by decide +kernel
theorem dX2_chooseCoats_82 : decode cX2_chooseCoats 82 = .ok (.lload 5, 2) := by decide +kernel
theorem dX2_chooseCoats_84 : decode cX2_chooseCoats 84 = .ok (.invokestatic 84, 3) := by decide +kernel
theorem dX2_chooseCoats_87 : decode cX2_chooseCoats 87 = .ok (.iastore, 1) := by decide +kernel
theorem dX2_chooseCoats_88 : decode cX2_chooseCoats 88 = .ok (.lload_n 1, 1) := by decide +kernel
theorem dX2_chooseCoats_89 : decode cX2_chooseCoats 89 = .ok (.lload 5, 2) := by decide +kernel
theorem dX2_chooseCoats_91 : decode cX2_chooseCoats 91 = .ok (.lload 5, 2) := by decide +kernel
theorem dX2_chooseCoats_93 : decode cX2_chooseCoats 93 = .ok (.lneg, 1) := by decide +kernel
theorem dX2_chooseCoats_94 : decode cX2_chooseCoats 94 = .ok (.land, 1) := by decide +kernel
theorem dX2_chooseCoats_95 : decode cX2_chooseCoats 95 = .ok (.ldc2_w 82, 3) := by decide +kernel
theorem dX2_chooseCoats_98 : decode cX2_chooseCoats 98 = .ok (.lxor, 1) := by decide +kernel
theorem dX2_chooseCoats_99 : decode cX2_chooseCoats 99 = .ok (.land, 1) := by decide +kernel
theorem dX2_chooseCoats_100 : decode cX2_chooseCoats 100 = .ok (.lstore_n 1, 1) := by decide +kernel
theorem dX2_chooseCoats_101 : decode cX2_chooseCoats 101 = .ok (.iinc 3 1, 3) := by decide +kernel
theorem dX2_chooseCoats_104 : decode cX2_chooseCoats 104 = .ok (.goto (-88), 3) := by decide +kernel
theorem dX2_chooseCoats_107 : decode cX2_chooseCoats 107 = .ok (.return_, 1) := by decide +kernel
theorem dX2_neededBy_0 : decode cX2_neededBy 0 = .ok (.lconst 0, 1) := by decide +kernel
theorem dX2_neededBy_1 : decode cX2_neededBy 1 = .ok (.lstore 4, 2) := by decide +kernel
theorem dX2_neededBy_3 : decode cX2_neededBy 3 = .ok (.iconst 1, 1) := by decide +kernel
theorem dX2_neededBy_4 : decode cX2_neededBy 4 = .ok (.istore 6, 2) := by decide +kernel
theorem dX2_neededBy_6 : decode cX2_neededBy 6 = .ok (.iload 6, 2) := by decide +kernel
theorem dX2_neededBy_8 : decode cX2_neededBy 8 = .ok (.iconst 1, 1) := by decide +kernel
theorem dX2_neededBy_9 : decode cX2_neededBy 9 = .ok (.aload_n 0, 1) := by decide +kernel
theorem dX2_neededBy_10 : decode cX2_neededBy 10 = .ok (.getfield 39, 3) := by decide +kernel
theorem dX2_neededBy_13 : decode cX2_neededBy 13 = .ok (.ishl, 1) := by decide +kernel
theorem dX2_neededBy_14 : decode cX2_neededBy 14 = .ok (.if_icmp .ge 49, 3) := by decide +kernel
theorem dX2_neededBy_17 : decode cX2_neededBy 17 = .ok (.aload_n 0, 1) := by decide +kernel
theorem dX2_neededBy_18 : decode cX2_neededBy 18 = .ok (.getfield 21, 3) := by decide +kernel
theorem dX2_neededBy_21 : decode cX2_neededBy 21 = .ok (.iload 6, 2) := by decide +kernel
theorem dX2_neededBy_23 : decode cX2_neededBy 23 = .ok (.laload, 1) := by decide +kernel
theorem dX2_neededBy_24 : decode cX2_neededBy 24 = .ok (.lload_n 2, 1) := by decide +kernel
theorem dX2_neededBy_25 : decode cX2_neededBy 25 = .ok (.land, 1) := by decide +kernel
theorem dX2_neededBy_26 : decode cX2_neededBy 26 = .ok (.lstore 7, 2) := by decide +kernel
theorem dX2_neededBy_28 : decode cX2_neededBy 28 = .ok (.iload 6, 2) := by decide +kernel
theorem dX2_neededBy_30 : decode cX2_neededBy 30 = .ok (.iload_n 1, 1) := by decide +kernel
theorem dX2_neededBy_31 : decode cX2_neededBy 31 = .ok (.iconst (-1), 1) := by decide +kernel
theorem dX2_neededBy_32 : decode cX2_neededBy 32 = .ok (.ixor, 1) := by decide +kernel
theorem dX2_neededBy_33 : decode cX2_neededBy 33 = .ok (.iand, 1) := by decide +kernel
theorem dX2_neededBy_34 : decode cX2_neededBy 34 = .ok (.ifCond .ne 23, 3) := by decide +kernel
theorem dX2_neededBy_37 : decode cX2_neededBy 37 = .ok (.lload 7, 2) := by decide +kernel
theorem dX2_neededBy_39 : decode cX2_neededBy 39 = .ok (.invokestatic 73, 3) := by decide +kernel
theorem dX2_neededBy_42 : decode cX2_neededBy 42 = .ok (.iload 6, 2) := by decide +kernel
theorem dX2_neededBy_44 : decode cX2_neededBy 44 = .ok (.invokestatic 46, 3) := by decide +kernel
theorem dX2_neededBy_47 : decode cX2_neededBy 47 = .ok (.if_icmp .gt 10, 3) := by decide +kernel
theorem dX2_neededBy_50 : decode cX2_neededBy 50 = .ok (.lload 4, 2) := by decide +kernel
theorem dX2_neededBy_52 : decode cX2_neededBy 52 = .ok (.lload 7, 2) := by decide +kernel
theorem dX2_neededBy_54 : decode cX2_neededBy 54 = .ok (.lor, 1) := by decide +kernel
theorem dX2_neededBy_55 : decode cX2_neededBy 55 = .ok (.lstore 4, 2) := by decide +kernel
theorem dX2_neededBy_57 : decode cX2_neededBy 57 = .ok (.iinc 6 1, 3) := by decide +kernel
theorem dX2_neededBy_60 : decode cX2_neededBy 60 = .ok (.goto (-54), 3) := by decide +kernel
theorem dX2_neededBy_63 : decode cX2_neededBy 63 = .ok (.lload 4, 2) := by decide +kernel
theorem dX2_neededBy_65 : decode cX2_neededBy 65 = .ok (.lreturn, 1) := by decide +kernel
theorem dX2_leastOf_0 : decode cX2_leastOf 0 = .ok (.iconst 0, 1) := by decide +kernel
theorem dX2_leastOf_1 : decode cX2_leastOf 1 = .ok (.istore_n 2, 1) := by decide +kernel
theorem dX2_leastOf_2 : decode cX2_leastOf 2 = .ok (.iload_n 2, 1) := by decide +kernel
theorem dX2_leastOf_3 : decode cX2_leastOf 3 = .ok (.bipush 40, 2) := by decide +kernel
theorem dX2_leastOf_5 : decode cX2_leastOf 5 = .ok (.if_icmp .ge 21, 3) := by decide +kernel
theorem dX2_leastOf_8 : decode cX2_leastOf 8 = .ok (.lload_n 0, 1) := by decide +kernel
theorem dX2_leastOf_9 : decode cX2_leastOf 9 = .ok (.lconst 1, 1) := by decide +kernel
theorem dX2_leastOf_10 : decode cX2_leastOf 10 = .ok (.iload_n 2, 1) := by decide +kernel
theorem dX2_leastOf_11 : decode cX2_leastOf 11 = .ok (.lshl, 1) := by decide +kernel
theorem dX2_leastOf_12 : decode cX2_leastOf 12 = .ok (.land, 1) := by decide +kernel
theorem dX2_leastOf_13 : decode cX2_leastOf 13 = .ok (.lconst 0, 1) := by decide +kernel
theorem dX2_leastOf_14 : decode cX2_leastOf 14 = .ok (.lcmp, 1) := by decide +kernel
theorem dX2_leastOf_15 : decode cX2_leastOf 15 = .ok (.ifCond .eq 5, 3) := by decide +kernel
theorem dX2_leastOf_18 : decode cX2_leastOf 18 = .ok (.iload_n 2, 1) := by decide +kernel
theorem dX2_leastOf_19 : decode cX2_leastOf 19 = .ok (.ireturn, 1) := by decide +kernel
theorem dX2_leastOf_20 : decode cX2_leastOf 20 = .ok (.iinc 2 1, 3) := by decide +kernel
theorem dX2_leastOf_23 : decode cX2_leastOf 23 = .ok (.goto (-21), 3) := by decide +kernel
theorem dX2_leastOf_26 : decode cX2_leastOf 26 = .ok (.iconst (-1), 1) := by decide +kernel
theorem dX2_leastOf_27 : decode cX2_leastOf 27 = .ok (.ireturn, 1) := by decide +kernel
theorem dX3_init_0 : decode cX3_init 0 = .ok (.aload_n 0, 1) := by decide +kernel
theorem dX3_init_1 : decode cX3_init 1 = .ok (.invokespecial 3, 3) := by decide +kernel
theorem dX3_init_4 : decode cX3_init 4 = .ok (.aload_n 0, 1) := by decide +kernel
theorem dX3_init_5 : decode cX3_init 5 = .ok (.bipush 8, 2) := by decide +kernel
theorem dX3_init_7 : decode cX3_init 7 = .ok (.newarray .int, 2) := by decide +kernel
theorem dX3_init_9 : decode cX3_init 9 = .ok (.putfield 11, 3) := by decide +kernel
theorem dX3_init_12 : decode cX3_init 12 = .ok (.aload_n 0, 1) := by decide +kernel
theorem dX3_init_13 : decode cX3_init 13 = .ok (.bipush 8, 2) := by decide +kernel
theorem dX3_init_15 : decode cX3_init 15 = .ok (.newarray .int, 2) := by decide +kernel
theorem dX3_init_17 : decode cX3_init 17 = .ok (.putfield 15, 3) := by decide +kernel
theorem dX3_init_20 : decode cX3_init 20 = .ok (.return_, 1) := by decide +kernel
theorem dX3_has_0 : decode cX3_has 0 = .ok (.iload_n 1, 1) := by decide +kernel
theorem dX3_has_1 : decode cX3_has 1 = .ok (.ifCond .lt 15, 3) := by decide +kernel
theorem dX3_has_4 : decode cX3_has 4 = .ok (.iload_n 1, 1) := by decide +kernel
theorem dX3_has_5 : decode cX3_has 5 = .ok (.aload_n 0, 1) := by decide +kernel
theorem dX3_has_6 : decode cX3_has 6 = .ok (.getfield 18, 3) := by decide +kernel
theorem dX3_has_9 : decode cX3_has 9 = .ok (.if_icmp .ge 7, 3) := by decide +kernel
theorem dX3_has_12 : decode cX3_has 12 = .ok (.iconst 1, 1) := by decide +kernel
theorem dX3_has_13 : decode cX3_has 13 = .ok (.goto 4, 3) := by decide +kernel
theorem dX3_has_16 : decode cX3_has 16 = .ok (.iconst 0, 1) := by decide +kernel
theorem dX3_has_17 : decode cX3_has 17 = .ok (.ireturn, 1) := by decide +kernel
theorem dX3_add_0 : decode cX3_add 0 = .ok (.aload_n 0, 1) := by decide +kernel
theorem dX3_add_1 : decode cX3_add 1 = .ok (.getfield 18, 3) := by decide +kernel
theorem dX3_add_4 : decode cX3_add 4 = .ok (.bipush 8, 2) := by decide +kernel
theorem dX3_add_6 : decode cX3_add 6 = .ok (.if_icmp .lt 5, 3) := by decide +kernel
theorem dX3_add_9 : decode cX3_add 9 = .ok (.iconst (-1), 1) := by decide +kernel
theorem dX3_add_10 : decode cX3_add 10 = .ok (.ireturn, 1) := by decide +kernel
theorem dX3_add_11 : decode cX3_add 11 = .ok (.aload_n 0, 1) := by decide +kernel
theorem dX3_add_12 : decode cX3_add 12 = .ok (.getfield 11, 3) := by decide +kernel
theorem dX3_add_15 : decode cX3_add 15 = .ok (.aload_n 0, 1) := by decide +kernel
theorem dX3_add_16 : decode cX3_add 16 = .ok (.getfield 18, 3) := by decide +kernel
theorem dX3_add_19 : decode cX3_add 19 = .ok (.iconst 0, 1) := by decide +kernel
theorem dX3_add_20 : decode cX3_add 20 = .ok (.iastore, 1) := by decide +kernel
theorem dX3_add_21 : decode cX3_add 21 = .ok (.aload_n 0, 1) := by decide +kernel
theorem dX3_add_22 : decode cX3_add 22 = .ok (.getfield 15, 3) := by decide +kernel
theorem dX3_add_25 : decode cX3_add 25 = .ok (.aload_n 0, 1) := by decide +kernel
theorem dX3_add_26 : decode cX3_add 26 = .ok (.getfield 18, 3) := by decide +kernel
theorem dX3_add_29 : decode cX3_add 29 = .ok (.iconst (-1), 1) := by decide +kernel
theorem dX3_add_30 : decode cX3_add 30 = .ok (.iastore, 1) := by decide +kernel
theorem dX3_add_31 : decode cX3_add 31 = .ok (.aload_n 0, 1) := by decide +kernel
theorem dX3_add_32 : decode cX3_add 32 = .ok (.dup, 1) := by decide +kernel
theorem dX3_add_33 : decode cX3_add 33 = .ok (.getfield 18, 3) := by decide +kernel
theorem dX3_add_36 : decode cX3_add 36 = .ok (.iconst 1, 1) := by decide +kernel
theorem dX3_add_37 : decode cX3_add 37 = .ok (.iadd, 1) := by decide +kernel
theorem dX3_add_38 : decode cX3_add 38 = .ok (.putfield 18, 3) := by decide +kernel
theorem dX3_add_41 : decode cX3_add 41 = .ok (.aload_n 0, 1) := by decide +kernel
theorem dX3_add_42 : decode cX3_add 42 = .ok (.getfield 18, 3) := by decide +kernel
theorem dX3_add_45 : decode cX3_add 45 = .ok (.iconst 1, 1) := by decide +kernel
theorem dX3_add_46 : decode cX3_add 46 = .ok (.isub, 1) := by decide +kernel
theorem dX3_add_47 : decode cX3_add 47 = .ok (.ireturn, 1) := by decide +kernel
theorem dX3_take_0 : decode cX3_take 0 = .ok (.aload_n 0, 1) := by decide +kernel
theorem dX3_take_1 : decode cX3_take 1 = .ok (.iload_n 1, 1) := by decide +kernel
theorem dX3_take_2 : decode cX3_take 2 = .ok (.invokevirtual 22, 3) := by decide +kernel
theorem dX3_take_5 : decode cX3_take 5 = .ok (.ifCond .eq 16, 3) := by decide +kernel
theorem dX3_take_8 : decode cX3_take 8 = .ok (.iload_n 2, 1) := by decide +kernel
theorem dX3_take_9 : decode cX3_take 9 = .ok (.ldc 26, 2) := by decide +kernel
theorem dX3_take_11 : decode cX3_take 11 = .ok (.aload_n 0, 1) := by decide +kernel
theorem dX3_take_12 : decode cX3_take 12 = .ok (.getfield 11, 3) := by decide +kernel
theorem dX3_take_15 : decode cX3_take 15 = .ok (.iload_n 1, 1) := by decide +kernel
theorem dX3_take_16 : decode cX3_take 16 = .ok (.iaload, 1) := by decide +kernel
theorem dX3_take_17 : decode cX3_take 17 = .ok (.isub, 1) := by decide +kernel
theorem dX3_take_18 : decode cX3_take 18 = .ok (.if_icmp .le 5, 3) := by decide +kernel
theorem dX3_take_21 : decode cX3_take 21 = .ok (.iconst (-1), 1) := by decide +kernel
theorem dX3_take_22 : decode cX3_take 22 = .ok (.ireturn, 1) := by decide +kernel
theorem dX3_take_23 : decode cX3_take 23 = .ok (.aload_n 0, 1) := by decide +kernel
theorem dX3_take_24 : decode cX3_take 24 = .ok (.getfield 11, 3) := by decide +kernel
theorem dX3_take_27 : decode cX3_take 27 = .ok (.iload_n 1, 1) := by decide +kernel
theorem dX3_take_28 : decode cX3_take 28 = .ok (.dup2, 1) := by decide +kernel
theorem dX3_take_29 : decode cX3_take 29 = .ok (.iaload, 1) := by decide +kernel
theorem dX3_take_30 : decode cX3_take 30 = .ok (.iload_n 2, 1) := by decide +kernel
theorem dX3_take_31 : decode cX3_take 31 = .ok (.iadd, 1) := by decide +kernel
theorem dX3_take_32 : decode cX3_take 32 = .ok (.iastore, 1) := by decide +kernel
theorem dX3_take_33 : decode cX3_take 33 = .ok (.aload_n 0, 1) := by decide +kernel
theorem dX3_take_34 : decode cX3_take 34 = .ok (.getfield 11, 3) := by decide +kernel
theorem dX3_take_37 : decode cX3_take 37 = .ok (.iload_n 1, 1) := by decide +kernel
theorem dX3_take_38 : decode cX3_take 38 = .ok (.iaload, 1) := by decide +kernel
theorem dX3_take_39 : decode cX3_take 39 = .ok (.ireturn, 1) := by decide +kernel
theorem dX3_childOf_0 : decode cX3_childOf 0 = .ok (.aload_n 0, 1) := by decide +kernel
theorem dX3_childOf_1 : decode cX3_childOf 1 = .ok (.iload_n 1, 1) := by decide +kernel
theorem dX3_childOf_2 : decode cX3_childOf 2 = .ok (.invokevirtual 22, 3) := by decide +kernel
theorem dX3_childOf_5 : decode cX3_childOf 5 = .ok (.ifCond .eq 12, 3) := by decide +kernel
theorem dX3_childOf_8 : decode cX3_childOf 8 = .ok (.aload_n 0, 1) := by decide +kernel
theorem dX3_childOf_9 : decode cX3_childOf 9 = .ok (.getfield 15, 3) := by decide +kernel
theorem dX3_childOf_12 : decode cX3_childOf 12 = .ok (.iload_n 1, 1) := by decide +kernel
theorem dX3_childOf_13 : decode cX3_childOf 13 = .ok (.iaload, 1) := by decide +kernel
theorem dX3_childOf_14 : decode cX3_childOf 14 = .ok (.goto 4, 3) := by decide +kernel
theorem dX3_childOf_17 : decode cX3_childOf 17 = .ok (.iconst (-1), 1) := by decide +kernel
theorem dX3_childOf_18 : decode cX3_childOf 18 = .ok (.ireturn, 1) := by decide +kernel
theorem dX3_votesFor_0 : decode cX3_votesFor 0 = .ok (.iconst 0, 1) := by decide +kernel
theorem dX3_votesFor_1 : decode cX3_votesFor 1 = .ok (.istore_n 3, 1) := by decide +kernel
theorem dX3_votesFor_2 : decode cX3_votesFor 2 = .ok (.iconst 0, 1) := by decide +kernel
theorem dX3_votesFor_3 : decode cX3_votesFor 3 = .ok (.istore 4, 2) := by decide +kernel
theorem dX3_votesFor_5 : decode cX3_votesFor 5 = .ok (.iload 4, 2) := by decide +kernel
theorem dX3_votesFor_7 : decode cX3_votesFor 7 = .ok (.aload_n 0, 1) := by decide +kernel
theorem dX3_votesFor_8 : decode cX3_votesFor 8 = .ok (.getfield 18, 3) := by decide +kernel
theorem dX3_votesFor_11 : decode cX3_votesFor 11 = .ok (.if_icmp .ge 36, 3) := by decide +kernel
theorem dX3_votesFor_14 : decode cX3_votesFor 14 = .ok (.aload_n 0, 1) := by decide +kernel
theorem dX3_votesFor_15 : decode cX3_votesFor 15 = .ok (.getfield 15, 3) := by decide +kernel
theorem dX3_votesFor_18 : decode cX3_votesFor 18 = .ok (.iload 4, 2) := by decide +kernel
theorem dX3_votesFor_20 : decode cX3_votesFor 20 = .ok (.iaload, 1) := by decide +kernel
theorem dX3_votesFor_21 : decode cX3_votesFor 21 = .ok (.iload_n 1, 1) := by decide +kernel
theorem dX3_votesFor_22 : decode cX3_votesFor 22 = .ok (.if_icmp .ne 19, 3) := by decide +kernel
theorem dX3_votesFor_25 : decode cX3_votesFor 25 = .ok (.iload_n 2, 1) := by decide +kernel
theorem dX3_votesFor_26 : decode cX3_votesFor 26 = .ok (.ifCond .le 15, 3) := by decide +kernel
theorem dX3_votesFor_29 : decode cX3_votesFor 29 = .ok (.iload_n 3, 1) := by decide +kernel
theorem dX3_votesFor_30 : decode cX3_votesFor 30 = .ok (.aload_n 0, 1) := by decide +kernel
theorem dX3_votesFor_31 : decode cX3_votesFor 31 = .ok (.getfield 11, 3) := by decide +kernel
theorem dX3_votesFor_34 : decode cX3_votesFor 34 = .ok (.iload 4, 2) := by decide +kernel
theorem dX3_votesFor_36 : decode cX3_votesFor 36 = .ok (.iaload, 1) := by decide +kernel
theorem dX3_votesFor_37 : decode cX3_votesFor 37 = .ok (.iload_n 2, 1) := by decide +kernel
theorem dX3_votesFor_38 : decode cX3_votesFor 38 = .ok (.idiv, 1) := by decide +kernel
theorem dX3_votesFor_39 : decode cX3_votesFor 39 = .ok (.iadd, 1) := by decide +kernel
theorem dX3_votesFor_40 : decode cX3_votesFor 40 = .ok (.istore_n 3, 1) := by decide +kernel
theorem dX3_votesFor_41 : decode cX3_votesFor 41 = .ok (.iinc 4 1, 3) := by decide +kernel
theorem dX3_votesFor_44 : decode cX3_votesFor 44 = .ok (.goto (-39), 3) := by decide +kernel
theorem dX3_votesFor_47 : decode cX3_votesFor 47 = .ok (.iload_n 3, 1) := by decide +kernel
theorem dX3_votesFor_48 : decode cX3_votesFor 48 = .ok (.ireturn, 1) := by decide +kernel
theorem dX4_init_0 : decode cX4_init 0 = .ok (.aload_n 0, 1) := by decide +kernel
theorem dX4_init_1 : decode cX4_init 1 = .ok (.invokespecial 3, 3) := by decide +kernel
theorem dX4_init_4 : decode cX4_init 4 = .ok (.aload_n 0, 1) := by decide +kernel
theorem dX4_init_5 : decode cX4_init 5 = .ok (.new 9, 3) := by decide +kernel
theorem dX4_init_8 : decode cX4_init 8 = .ok (.dup, 1) := by decide +kernel
theorem dX4_init_9 : decode cX4_init 9 = .ok (.invokespecial 11, 3) := by decide +kernel
theorem dX4_init_12 : decode cX4_init 12 = .ok (.putfield 12, 3) := by decide +kernel
theorem dX4_init_15 : decode cX4_init 15 = .ok (.aload_n 0, 1) := by decide +kernel
theorem dX4_init_16 : decode cX4_init 16 = .ok (.iconst 0, 1) := by decide +kernel
theorem dX4_init_17 : decode cX4_init 17 = .ok (.putfield 18, 3) := by decide +kernel
theorem dX4_init_20 : decode cX4_init 20 = .ok (.aload_n 0, 1) := by decide +kernel
theorem dX4_init_21 : decode cX4_init 21 = .ok (.iconst (-1), 1) := by decide +kernel
theorem dX4_init_22 : decode cX4_init 22 = .ok (.putfield 22, 3) := by decide +kernel
theorem dX4_init_25 : decode cX4_init 25 = .ok (.aload_n 0, 1) := by decide +kernel
theorem dX4_init_26 : decode cX4_init 26 = .ok (.sipush 300, 3) := by decide +kernel
theorem dX4_init_29 : decode cX4_init 29 = .ok (.newarray .byte, 2) := by decide +kernel
theorem dX4_init_31 : decode cX4_init 31 = .ok (.putfield 25, 3) := by decide +kernel
theorem dX4_init_34 : decode cX4_init 34 = .ok (.return_, 1) := by decide +kernel
theorem dX4_append_0 : decode cX4_append 0 = .ok (.bipush 24, 2) := by decide +kernel
theorem dX4_append_2 : decode cX4_append 2 = .ok (.istore_n 2, 1) := by decide +kernel
theorem dX4_append_3 : decode cX4_append 3 = .ok (.iload_n 2, 1) := by decide +kernel
theorem dX4_append_4 : decode cX4_append 4 = .ok (.ifCond .lt 42, 3) := by decide +kernel
theorem dX4_append_7 : decode cX4_append 7 = .ok (.aload_n 0, 1) := by decide +kernel
theorem dX4_append_8 : decode cX4_append 8 = .ok (.getfield 29, 3) := by decide +kernel
theorem dX4_append_11 : decode cX4_append 11 = .ok (.sipush 300, 3) := by decide +kernel
theorem dX4_append_14 : decode cX4_append 14 = .ok (.if_icmp .ge 26, 3) := by decide +kernel
theorem dX4_append_17 : decode cX4_append 17 = .ok (.aload_n 0, 1) := by decide +kernel
theorem dX4_append_18 : decode cX4_append 18 = .ok (.getfield 25, 3) := by decide +kernel
theorem dX4_append_21 : decode cX4_append 21 = .ok (.aload_n 0, 1) := by decide +kernel
theorem dX4_append_22 : decode cX4_append 22 = .ok (.getfield 29, 3) := by decide +kernel
theorem dX4_append_25 : decode cX4_append 25 = .ok (.iload_n 1, 1) := by decide +kernel
theorem dX4_append_26 : decode cX4_append 26 = .ok (.iload_n 2, 1) := by decide +kernel
theorem dX4_append_27 : decode cX4_append 27 = .ok (.iushr, 1) := by decide +kernel
theorem dX4_append_28 : decode cX4_append 28 = .ok (.i2b, 1) := by decide +kernel
theorem dX4_append_29 : decode cX4_append 29 = .ok (.bastore, 1) := by decide +kernel
theorem dX4_append_30 : decode cX4_append 30 = .ok (.aload_n 0, 1) := by decide +kernel
theorem dX4_append_31 : decode cX4_append 31 = .ok (.dup, 1) := by decide +kernel
theorem dX4_append_32 : decode cX4_append 32 = .ok (.getfield 29, 3) := by decide +kernel
theorem dX4_append_35 : decode cX4_append 35 = .ok (.iconst 1, 1) := by decide +kernel
theorem dX4_append_36 : decode cX4_append 36 = .ok (.iadd, 1) := by decide +kernel
theorem dX4_append_37 : decode cX4_append 37 = .ok (.putfield 29, 3) := by decide +kernel
theorem dX4_append_40 : decode cX4_append 40 = .ok (.iinc 2 (-8), 3) := by decide +kernel
theorem dX4_append_43 : decode cX4_append 43 = .ok (.goto (-40), 3) := by decide +kernel
theorem dX4_append_46 : decode cX4_append 46 = .ok (.return_, 1) := by decide +kernel
theorem dX4_read_0 : decode cX4_read 0 = .ok (.aload_n 0, 1) := by decide +kernel
theorem dX4_read_1 : decode cX4_read 1 = .ok (.iload_n 1, 1) := by decide +kernel
theorem dX4_read_2 : decode cX4_read 2 = .ok (.aload_n 0, 1) := by decide +kernel
theorem dX4_read_3 : decode cX4_read 3 = .ok (.getfield 29, 3) := by decide +kernel
theorem dX4_read_6 : decode cX4_read 6 = .ok (.invokestatic 32, 3) := by decide +kernel
theorem dX4_read_9 : decode cX4_read 9 = .ok (.putfield 38, 3) := by decide +kernel
theorem dX4_read_12 : decode cX4_read 12 = .ok (.aload_n 0, 1) := by decide +kernel
theorem dX4_read_13 : decode cX4_read 13 = .ok (.iconst 0, 1) := by decide +kernel
theorem dX4_read_14 : decode cX4_read 14 = .ok (.putfield 29, 3) := by decide +kernel
theorem dX4_read_17 : decode cX4_read 17 = .ok (.aload_n 0, 1) := by decide +kernel
theorem dX4_read_18 : decode cX4_read 18 = .ok (.iconst 0, 1) := by decide +kernel
theorem dX4_read_19 : decode cX4_read 19 = .ok (.putfield 41, 3) := by decide +kernel
theorem dX4_read_22 : decode cX4_read 22 = .ok (.aload_n 0, 1) := by decide +kernel
theorem dX4_read_23 : decode cX4_read 23 = .ok (.iconst 0, 1) := by decide +kernel
theorem dX4_read_24 : decode cX4_read 24 = .ok (.putfield 44, 3) := by decide +kernel
theorem dX4_read_27 : decode cX4_read 27 = .ok (.aload_n 0, 1) := by decide +kernel
theorem dX4_read_28 : decode cX4_read 28 = .ok (.iconst 0, 1) := by decide +kernel
theorem dX4_read_29 : decode cX4_read 29 = .ok (.putfield 18, 3) := by decide +kernel
theorem dX4_read_32 : decode cX4_read 32 = .ok (.aload_n 0, 1) := by decide +kernel
theorem dX4_read_33 : decode cX4_read 33 = .ok (.iconst (-1), 1) := by decide +kernel
theorem dX4_read_34 : decode cX4_read 34 = .ok (.putfield 22, 3) := by decide +kernel
theorem dX4_read_37 : decode cX4_read 37 = .ok (.aload_n 0, 1) := by decide +kernel
theorem dX4_read_38 : decode cX4_read 38 = .ok (.getfield 12, 3) := by decide +kernel
theorem dX4_read_41 : decode cX4_read 41 = .ok (.invokevirtual 47, 3) := by decide +kernel
theorem dX4_read_44 : decode cX4_read 44 = .ok (.aload_n 0, 1) := by decide +kernel
theorem dX4_read_45 : decode cX4_read 45 = .ok (.invokevirtual 50, 3) := by decide +kernel
theorem dX4_read_48 : decode cX4_read 48 = .ok (.iconst 0, 1) := by decide +kernel
theorem dX4_read_49 : decode cX4_read 49 = .ok (.istore_n 2, 1) := by decide +kernel
theorem dX4_read_50 : decode cX4_read 50 = .ok (.aload_n 0, 1) := by decide +kernel
theorem dX4_read_51 : decode cX4_read 51 = .ok (.getfield 53, 3) := by decide +kernel
theorem dX4_read_54 : decode cX4_read 54 = .ok (.ifCond .eq 36, 3) := by decide +kernel
theorem dX4_read_57 : decode cX4_read 57 = .ok (.aload_n 0, 1) := by decide +kernel
theorem dX4_read_58 : decode cX4_read 58 = .ok (.getfield 18, 3) := by decide +kernel
theorem dX4_read_61 : decode cX4_read 61 = .ok (.ifCond .ne 29, 3) := by decide +kernel
theorem dX4_read_64 : decode cX4_read 64 = .ok (.iload_n 2, 1) := by decide +kernel
theorem dX4_read_65 : decode cX4_read 65 = .ok (.aload_n 0, 1) := by decide +kernel
theorem dX4_read_66 : decode cX4_read 66 = .ok (.getfield 38, 3) := by decide +kernel
theorem dX4_read_69 : decode cX4_read 69 = .ok (.if_icmp .ge 21, 3) := by decide +kernel
theorem dX4_read_72 : decode cX4_read 72 = .ok (.aload_n 0, 1) := by decide +kernel
theorem dX4_read_73 : decode cX4_read 73 = .ok (.aload_n 0, 1) := by decide +kernel
theorem dX4_read_74 : decode cX4_read 74 = .ok (.invokevirtual 56, 3) := by decide +kernel
theorem dX4_read_77 : decode cX4_read 77 = .ok (.invokevirtual 60, 3) := by decide +kernel
theorem dX4_read_80 : decode cX4_read 80 = .ok (.aload_n 0, 1) := by decide +kernel
theorem dX4_read_81 : decode cX4_read 81 = .ok (.invokevirtual 64, 3) := by decide +kernel
theorem dX4_read_84 : decode cX4_read 84 = .ok (.iinc 2 1, 3) := by decide +kernel
theorem dX4_read_87 : decode cX4_read 87 = .ok (.goto (-37), 3) := by decide +kernel
theorem dX4_read_90 : decode cX4_read 90 = .ok (.aload_n 0, 1) := by decide +kernel
theorem dX4_read_91 : decode cX4_read 91 = .ok (.getfield 18, 3) := by decide +kernel
theorem dX4_read_94 : decode cX4_read 94 = .ok (.ifCond .ne 7, 3) := by decide +kernel
theorem dX4_read_97 : decode cX4_read 97 = .ok (.iload_n 2, 1) := by decide +kernel
theorem dX4_read_98 : decode cX4_read 98 = .ok (.goto 4, 3) := by decide +kernel
theorem dX4_read_101 : decode cX4_read 101 = .ok (.iconst (-1), 1) := by decide +kernel
theorem dX4_read_102 : decode cX4_read 102 = .ok (.ireturn, 1) := by decide +kernel
theorem dX4_blame_0 : decode cX4_blame 0 = .ok (.aload_n 0, 1) := by decide +kernel
theorem dX4_blame_1 : decode cX4_blame 1 = .ok (.iload_n 1, 1) := by decide +kernel
theorem dX4_blame_2 : decode cX4_blame 2 = .ok (.putfield 18, 3) := by decide +kernel
theorem dX4_blame_5 : decode cX4_blame 5 = .ok (.aload_n 0, 1) := by decide +kernel
theorem dX4_blame_6 : decode cX4_blame 6 = .ok (.aload_n 0, 1) := by decide +kernel
theorem dX4_blame_7 : decode cX4_blame 7 = .ok (.getfield 67, 3) := by decide +kernel
theorem dX4_blame_10 : decode cX4_blame 10 = .ok (.putfield 22, 3) := by decide +kernel
theorem dX4_blame_13 : decode cX4_blame 13 = .ok (.return_, 1) := by decide +kernel
theorem dX4_begunLine_0 : decode cX4_begunLine 0 = .ok (.aload_n 0, 1) := by decide +kernel
theorem dX4_begunLine_1 : decode cX4_begunLine 1 = .ok (.invokevirtual 70, 3) := by decide +kernel
theorem dX4_begunLine_4 : decode cX4_begunLine 4 = .ok (.istore_n 1, 1) := by decide +kernel
theorem dX4_begunLine_5 : decode cX4_begunLine 5 = .ok (.iload_n 1, 1) := by decide +kernel
theorem dX4_begunLine_6 : decode cX4_begunLine 6 = .ok (.iconst (-1), 1) := by decide +kernel
theorem dX4_begunLine_7 : decode cX4_begunLine 7 = .ok (.if_icmp .ne 10, 3) := by decide +kernel
theorem dX4_begunLine_10 : decode cX4_begunLine 10 = .ok (.aload_n 0, 1) := by decide +kernel
theorem dX4_begunLine_11 : decode cX4_begunLine 11 = .ok (.iconst 1, 1) := by decide +kernel
theorem dX4_begunLine_12 : decode cX4_begunLine 12 = .ok (.invokevirtual 73, 3) := by decide +kernel
theorem dX4_begunLine_15 : decode cX4_begunLine 15 = .ok (.iconst (-1), 1) := by decide +kernel
theorem dX4_begunLine_16 : decode cX4_begunLine 16 = .ok (.ireturn, 1) := by decide +kernel
theorem dX4_begunLine_17 : decode cX4_begunLine 17 = .ok (.aload_n 0, 1) := by decide +kernel
theorem dX4_begunLine_18 : decode cX4_begunLine 18 = .ok (.getfield 44, 3) := by decide +kernel
theorem dX4_begunLine_21 : decode cX4_begunLine 21 = .ok (.iconst 1, 1) := by decide +kernel
theorem dX4_begunLine_22 : decode cX4_begunLine 22 = .ok (.iload_n 1, 1) := by decide +kernel
theorem dX4_begunLine_23 : decode cX4_begunLine 23 = .ok (.ishl, 1) := by decide +kernel
theorem dX4_begunLine_24 : decode cX4_begunLine 24 = .ok (.iand, 1) := by decide +kernel
theorem dX4_begunLine_25 : decode cX4_begunLine 25 = .ok (.ifCond .eq 10, 3) := by decide +kernel
theorem dX4_begunLine_28 : decode cX4_begunLine 28 = .ok (.aload_n 0, 1) := by decide +kernel
theorem dX4_begunLine_29 : decode cX4_begunLine 29 = .ok (.iconst 3, 1) := by decide +kernel
theorem dX4_begunLine_30 : decode cX4_begunLine 30 = .ok (.invokevirtual 73, 3) := by decide +kernel
theorem dX4_begunLine_33 : decode cX4_begunLine 33 = .ok (.iconst (-1), 1) := by decide +kernel
theorem dX4_begunLine_34 : decode cX4_begunLine 34 = .ok (.ireturn, 1) := by decide +kernel
theorem dX4_begunLine_35 : decode cX4_begunLine 35 = .ok (.aload_n 0, 1) := by decide +kernel
theorem dX4_begunLine_36 : decode cX4_begunLine 36 = .ok (.dup, 1) := by decide +kernel
theorem dX4_begunLine_37 : decode cX4_begunLine 37 = .ok (.getfield 44, 3) := by decide +kernel
theorem dX4_begunLine_40 : decode cX4_begunLine 40 = .ok (.iconst 1, 1) := by decide +kernel
theorem dX4_begunLine_41 : decode cX4_begunLine 41 = .ok (.iload_n 1, 1) := by decide +kernel
theorem dX4_begunLine_42 : decode cX4_begunLine 42 = .ok (.ishl, 1) := by decide +kernel
theorem dX4_begunLine_43 : decode cX4_begunLine 43 = .ok (.ior, 1) := by decide +kernel
theorem dX4_begunLine_44 : decode cX4_begunLine 44 = .ok (.putfield 44, 3) := by decide +kernel
theorem dX4_begunLine_47 : decode cX4_begunLine 47 = .ok (.aload_n 0, 1) := by decide +kernel
theorem dX4_begunLine_48 : decode cX4_begunLine 48 = .ok (.invokevirtual 50, 3) := by decide +kernel
theorem dX4_begunLine_51 : decode cX4_begunLine 51 = .ok (.iload_n 1, 1) := by decide +kernel
theorem dX4_begunLine_52 : decode cX4_begunLine 52 = .ok (.ireturn, 1) := by decide +kernel
theorem dX4_endLine_0 : decode cX4_endLine 0 = .ok (.aload_n 0, 1) := by decide +kernel
theorem dX4_endLine_1 : decode cX4_endLine 1 = .ok (.getfield 18, 3) := by decide +kernel
theorem dX4_endLine_4 : decode cX4_endLine 4 = .ok (.ifCond .eq 4, 3) := by decide +kernel
theorem dX4_endLine_7 : decode cX4_endLine 7 = .ok (.return_, 1) := by decide +kernel
theorem dX4_endLine_8 : decode cX4_endLine 8 = .ok (.aload_n 0, 1) := by decide +kernel
theorem dX4_endLine_9 : decode cX4_endLine 9 = .ok (.getfield 53, 3) := by decide +kernel
theorem dX4_endLine_12 : decode cX4_endLine 12 = .ok (.iconst 3, 1) := by decide +kernel
theorem dX4_endLine_13 : decode cX4_endLine 13 = .ok (.if_icmp .ne 10, 3) := by decide +kernel
theorem dX4_endLine_16 : decode cX4_endLine 16 = .ok (.aload_n 0, 1) := by decide +kernel
theorem dX4_endLine_17 : decode cX4_endLine 17 = .ok (.invokevirtual 50, 3) := by decide +kernel
theorem dX4_endLine_20 : decode cX4_endLine 20 = .ok (.goto 8, 3) := by decide +kernel
theorem dX4_endLine_23 : decode cX4_endLine 23 = .ok (.aload_n 0, 1) := by decide +kernel
theorem dX4_endLine_24 : decode cX4_endLine 24 = .ok (.iconst 1, 1) := by decide +kernel
theorem dX4_endLine_25 : decode cX4_endLine 25 = .ok (.invokevirtual 73, 3) := by decide +kernel
theorem dX4_endLine_28 : decode cX4_endLine 28 = .ok (.return_, 1) := by decide +kernel
theorem dX4_readRest_0 : decode cX4_readRest 0 = .ok (.iload_n 1, 1) := by decide +kernel
theorem dX4_readRest_1 : decode cX4_readRest 1 = .ok (.tableswitch 122 0 5 #[39, 46, 64, 71, 88, 105], 39) := by decide +kernel
theorem dX4_readRest_40 : decode cX4_readRest 40 = .ok (.aload_n 0, 1) := by decide +kernel
theorem dX4_readRest_41 : decode cX4_readRest 41 = .ok (.invokevirtual 76, 3) := by decide +kernel
theorem dX4_readRest_44 : decode cX4_readRest 44 = .ok (.goto 79, 3) := by decide +kernel
theorem dX4_readRest_47 : decode cX4_readRest 47 = .ok (.aload_n 0, 1) := by decide +kernel
theorem dX4_readRest_48 : decode cX4_readRest 48 = .ok (.getfield 12, 3) := by decide +kernel
theorem dX4_readRest_51 : decode cX4_readRest 51 = .ok (.aload_n 0, 1) := by decide +kernel
theorem dX4_readRest_52 : decode cX4_readRest 52 = .ok (.iconst 1, 1) := by decide +kernel
theorem dX4_readRest_53 : decode cX4_readRest 53 = .ok (.sipush 9999, 3) := by decide +kernel
theorem dX4_readRest_56 : decode cX4_readRest 56 = .ok (.invokevirtual 79, 3) := by decide +kernel
theorem dX4_readRest_59 : decode cX4_readRest 59 = .ok (.putfield 82, 3) := by decide +kernel
theorem dX4_readRest_62 : decode cX4_readRest 62 = .ok (.goto 61, 3) := by decide +kernel
theorem dX4_readRest_65 : decode cX4_readRest 65 = .ok (.aload_n 0, 1) := by decide +kernel
theorem dX4_readRest_66 : decode cX4_readRest 66 = .ok (.invokevirtual 85, 3) := by decide +kernel
theorem dX4_readRest_69 : decode cX4_readRest 69 = .ok (.goto 54, 3) := by decide +kernel
theorem dX4_readRest_72 : decode cX4_readRest 72 = .ok (.aload_n 0, 1) := by decide +kernel
theorem dX4_readRest_73 : decode cX4_readRest 73 = .ok (.getfield 12, 3) := by decide +kernel
theorem dX4_readRest_76 : decode cX4_readRest 76 = .ok (.aload_n 0, 1) := by decide +kernel
theorem dX4_readRest_77 : decode cX4_readRest 77 = .ok (.iconst 1, 1) := by decide +kernel
theorem dX4_readRest_78 : decode cX4_readRest 78 = .ok (.bipush 9, 2) := by decide +kernel
theorem dX4_readRest_80 : decode cX4_readRest 80 = .ok (.invokevirtual 79, 3) := by decide +kernel
theorem dX4_readRest_83 : decode cX4_readRest 83 = .ok (.putfield 88, 3) := by decide +kernel
theorem dX4_readRest_86 : decode cX4_readRest 86 = .ok (.goto 37, 3) := by decide +kernel
theorem dX4_readRest_89 : decode cX4_readRest 89 = .ok (.aload_n 0, 1) := by decide +kernel
theorem dX4_readRest_90 : decode cX4_readRest 90 = .ok (.getfield 12, 3) := by decide +kernel
theorem dX4_readRest_93 : decode cX4_readRest 93 = .ok (.aload_n 0, 1) := by decide +kernel
theorem dX4_readRest_94 : decode cX4_readRest 94 = .ok (.iconst 0, 1) := by decide +kernel
theorem dX4_readRest_95 : decode cX4_readRest 95 = .ok (.bipush 9, 2) := by decide +kernel
theorem dX4_readRest_97 : decode cX4_readRest 97 = .ok (.invokevirtual 79, 3) := by decide +kernel
theorem dX4_readRest_100 : decode cX4_readRest 100 = .ok (.putfield 91, 3) := by decide +kernel
theorem dX4_readRest_103 : decode cX4_readRest 103 = .ok (.goto 20, 3) := by decide +kernel
theorem dX4_readRest_106 : decode cX4_readRest 106 = .ok (.aload_n 0, 1) := by decide +kernel
theorem dX4_readRest_107 : decode cX4_readRest 107 = .ok (.getfield 12, 3) := by decide +kernel
theorem dX4_readRest_110 : decode cX4_readRest 110 = .ok (.aload_n 0, 1) := by decide +kernel
theorem dX4_readRest_111 : decode cX4_readRest 111 = .ok (.iconst 1, 1) := by decide +kernel
theorem dX4_readRest_112 : decode cX4_readRest 112 = .ok (.bipush 8, 2) := by decide +kernel
theorem dX4_readRest_114 : decode cX4_readRest 114 = .ok (.invokevirtual 79, 3) := by decide +kernel
theorem dX4_readRest_117 : decode cX4_readRest 117 = .ok (.putfield 94, 3) := by decide +kernel
theorem dX4_readRest_120 : decode cX4_readRest 120 = .ok (.goto 3, 3) := by decide +kernel
theorem dX4_readRest_123 : decode cX4_readRest 123 = .ok (.return_, 1) := by decide +kernel
theorem dX4_readWays_0 : decode cX4_readWays 0 = .ok (.aload_n 0, 1) := by decide +kernel
theorem dX4_readWays_1 : decode cX4_readWays 1 = .ok (.invokevirtual 97, 3) := by decide +kernel
theorem dX4_readWays_4 : decode cX4_readWays 4 = .ok (.iconst (-1), 1) := by decide +kernel
theorem dX4_readWays_5 : decode cX4_readWays 5 = .ok (.if_icmp .ne 9, 3) := by decide +kernel
theorem dX4_readWays_8 : decode cX4_readWays 8 = .ok (.aload_n 0, 1) := by decide +kernel
theorem dX4_readWays_9 : decode cX4_readWays 9 = .ok (.iconst 1, 1) := by decide +kernel
theorem dX4_readWays_10 : decode cX4_readWays 10 = .ok (.invokevirtual 73, 3) := by decide +kernel
theorem dX4_readWays_13 : decode cX4_readWays 13 = .ok (.return_, 1) := by decide +kernel
theorem dX4_readWays_14 : decode cX4_readWays 14 = .ok (.aload_n 0, 1) := by decide +kernel
theorem dX4_readWays_15 : decode cX4_readWays 15 = .ok (.getfield 12, 3) := by decide +kernel
theorem dX4_readWays_18 : decode cX4_readWays 18 = .ok (.iconst 0, 1) := by decide +kernel
theorem dX4_readWays_19 : decode cX4_readWays 19 = .ok (.putfield 100, 3) := by decide +kernel
theorem dX4_readWays_22 : decode cX4_readWays 22 = .ok (.iconst 0, 1) := by decide +kernel
theorem dX4_readWays_23 : decode cX4_readWays 23 = .ok (.istore_n 1, 1) := by decide +kernel
theorem dX4_readWays_24 : decode cX4_readWays 24 = .ok (.iload_n 1, 1) := by decide +kernel
theorem dX4_readWays_25 : decode cX4_readWays 25 = .ok (.bipush 8, 2) := by decide +kernel
theorem dX4_readWays_27 : decode cX4_readWays 27 = .ok (.if_icmp .ge 47, 3) := by decide +kernel
theorem dX4_readWays_30 : decode cX4_readWays 30 = .ok (.aload_n 0, 1) := by decide +kernel
theorem dX4_readWays_31 : decode cX4_readWays 31 = .ok (.invokevirtual 97, 3) := by decide +kernel
theorem dX4_readWays_34 : decode cX4_readWays 34 = .ok (.iconst (-1), 1) := by decide +kernel
theorem dX4_readWays_35 : decode cX4_readWays 35 = .ok (.if_icmp .eq 39, 3) := by decide +kernel
theorem dX4_readWays_38 : decode cX4_readWays 38 = .ok (.aload_n 0, 1) := by decide +kernel
theorem dX4_readWays_39 : decode cX4_readWays 39 = .ok (.getfield 12, 3) := by decide +kernel
theorem dX4_readWays_42 : decode cX4_readWays 42 = .ok (.getfield 103, 3) := by decide +kernel
theorem dX4_readWays_45 : decode cX4_readWays 45 = .ok (.iload_n 1, 1) := by decide +kernel
theorem dX4_readWays_46 : decode cX4_readWays 46 = .ok (.aload_n 0, 1) := by decide +kernel
theorem dX4_readWays_47 : decode cX4_readWays 47 = .ok (.invokevirtual 97, 3) := by decide +kernel
theorem dX4_readWays_50 : decode cX4_readWays 50 = .ok (.iastore, 1) := by decide +kernel
theorem dX4_readWays_51 : decode cX4_readWays 51 = .ok (.aload_n 0, 1) := by decide +kernel
theorem dX4_readWays_52 : decode cX4_readWays 52 = .ok (.getfield 12, 3) := by decide +kernel
theorem dX4_readWays_55 : decode cX4_readWays 55 = .ok (.dup, 1) := by decide +kernel
theorem dX4_readWays_56 : decode cX4_readWays 56 = .ok (.getfield 100, 3) := by decide +kernel
theorem dX4_readWays_59 : decode cX4_readWays 59 = .ok (.iconst 1, 1) := by decide +kernel
theorem dX4_readWays_60 : decode cX4_readWays 60 = .ok (.iadd, 1) := by decide +kernel
theorem dX4_readWays_61 : decode cX4_readWays 61 = .ok (.putfield 100, 3) := by decide +kernel
theorem dX4_readWays_64 : decode cX4_readWays 64 = .ok (.aload_n 0, 1) := by decide +kernel
theorem dX4_readWays_65 : decode cX4_readWays 65 = .ok (.invokevirtual 50, 3) := by decide +kernel
theorem dX4_readWays_68 : decode cX4_readWays 68 = .ok (.iinc 1 1, 3) := by decide +kernel
theorem dX4_readWays_71 : decode cX4_readWays 71 = .ok (.goto (-47), 3) := by decide +kernel
theorem dX4_readWays_74 : decode cX4_readWays 74 = .ok (.aload_n 0, 1) := by decide +kernel
theorem dX4_readWays_75 : decode cX4_readWays 75 = .ok (.invokevirtual 97, 3) := by decide +kernel
theorem dX4_readWays_78 : decode cX4_readWays 78 = .ok (.iconst (-1), 1) := by decide +kernel
theorem dX4_readWays_79 : decode cX4_readWays 79 = .ok (.if_icmp .eq 8, 3) := by decide +kernel
theorem dX4_readWays_82 : decode cX4_readWays 82 = .ok (.aload_n 0, 1) := by decide +kernel
theorem dX4_readWays_83 : decode cX4_readWays 83 = .ok (.iconst 2, 1) := by decide +kernel
theorem dX4_readWays_84 : decode cX4_readWays 84 = .ok (.invokevirtual 73, 3) := by decide +kernel
theorem dX4_readWays_87 : decode cX4_readWays 87 = .ok (.return_, 1) := by decide +kernel
theorem dX4_readAges_0 : decode cX4_readAges 0 = .ok (.aload_n 0, 1) := by decide +kernel
theorem dX4_readAges_1 : decode cX4_readAges 1 = .ok (.getfield 12, 3) := by decide +kernel
theorem dX4_readAges_4 : decode cX4_readAges 4 = .ok (.aload_n 0, 1) := by decide +kernel
theorem dX4_readAges_5 : decode cX4_readAges 5 = .ok (.iconst 0, 1) := by decide +kernel
theorem dX4_readAges_6 : decode cX4_readAges 6 = .ok (.bipush 20, 2) := by decide +kernel
theorem dX4_readAges_8 : decode cX4_readAges 8 = .ok (.invokevirtual 79, 3) := by decide +kernel
theorem dX4_readAges_11 : decode cX4_readAges 11 = .ok (.putfield 107, 3) := by decide +kernel
theorem dX4_readAges_14 : decode cX4_readAges 14 = .ok (.aload_n 0, 1) := by decide +kernel
theorem dX4_readAges_15 : decode cX4_readAges 15 = .ok (.getfield 18, 3) := by decide +kernel
theorem dX4_readAges_18 : decode cX4_readAges 18 = .ok (.ifCond .ne 23, 3) := by decide +kernel
theorem dX4_readAges_21 : decode cX4_readAges 21 = .ok (.aload_n 0, 1) := by decide +kernel
theorem dX4_readAges_22 : decode cX4_readAges 22 = .ok (.getfield 12, 3) := by decide +kernel
theorem dX4_readAges_25 : decode cX4_readAges 25 = .ok (.aload_n 0, 1) := by decide +kernel
theorem dX4_readAges_26 : decode cX4_readAges 26 = .ok (.aload_n 0, 1) := by decide +kernel
theorem dX4_readAges_27 : decode cX4_readAges 27 = .ok (.getfield 12, 3) := by decide +kernel
theorem dX4_readAges_30 : decode cX4_readAges 30 = .ok (.getfield 107, 3) := by decide +kernel
theorem dX4_readAges_33 : decode cX4_readAges 33 = .ok (.bipush 20, 2) := by decide +kernel
theorem dX4_readAges_35 : decode cX4_readAges 35 = .ok (.invokevirtual 79, 3) := by decide +kernel
theorem dX4_readAges_38 : decode cX4_readAges 38 = .ok (.putfield 110, 3) := by decide +kernel
theorem dX4_readAges_41 : decode cX4_readAges 41 = .ok (.return_, 1) := by decide +kernel
theorem dX4_readNumber_0 : decode cX4_readNumber 0 = .ok (.aload_n 0, 1) := by decide +kernel
theorem dX4_readNumber_1 : decode cX4_readNumber 1 = .ok (.getfield 53, 3) := by decide +kernel
theorem dX4_readNumber_4 : decode cX4_readNumber 4 = .ok (.iconst 2, 1) := by decide +kernel
theorem dX4_readNumber_5 : decode cX4_readNumber 5 = .ok (.if_icmp .eq 10, 3) := by decide +kernel
theorem dX4_readNumber_8 : decode cX4_readNumber 8 = .ok (.aload_n 0, 1) := by decide +kernel
theorem dX4_readNumber_9 : decode cX4_readNumber 9 = .ok (.iconst 1, 1) := by decide +kernel
theorem dX4_readNumber_10 : decode cX4_readNumber 10 = .ok (.invokevirtual 73, 3) := by decide +kernel
theorem dX4_readNumber_13 : decode cX4_readNumber 13 = .ok (.iload_n 1, 1) := by decide +kernel
theorem dX4_readNumber_14 : decode cX4_readNumber 14 = .ok (.ireturn, 1) := by decide +kernel
theorem dX4_readNumber_15 : decode cX4_readNumber 15 = .ok (.aload_n 0, 1) := by decide +kernel
theorem dX4_readNumber_16 : decode cX4_readNumber 16 = .ok (.getfield 113, 3) := by decide +kernel
theorem dX4_readNumber_19 : decode cX4_readNumber 19 = .ok (.iload_n 1, 1) := by decide +kernel
theorem dX4_readNumber_20 : decode cX4_readNumber 20 = .ok (.if_icmp .lt 11, 3) := by decide +kernel
theorem dX4_readNumber_23 : decode cX4_readNumber 23 = .ok (.aload_n 0, 1) := by decide +kernel
theorem dX4_readNumber_24 : decode cX4_readNumber 24 = .ok (.getfield 113, 3) := by decide +kernel
theorem dX4_readNumber_27 : decode cX4_readNumber 27 = .ok (.iload_n 2, 1) := by decide +kernel
theorem dX4_readNumber_28 : decode cX4_readNumber 28 = .ok (.if_icmp .le 10, 3) := by decide +kernel
theorem dX4_readNumber_31 : decode cX4_readNumber 31 = .ok (.aload_n 0, 1) := by decide +kernel
theorem dX4_readNumber_32 : decode cX4_readNumber 32 = .ok (.iconst 2, 1) := by decide +kernel
theorem dX4_readNumber_33 : decode cX4_readNumber 33 = .ok (.invokevirtual 73, 3) := by decide +kernel
theorem dX4_readNumber_36 : decode cX4_readNumber 36 = .ok (.iload_n 1, 1) := by decide +kernel
theorem dX4_readNumber_37 : decode cX4_readNumber 37 = .ok (.ireturn, 1) := by decide +kernel
theorem dX4_readNumber_38 : decode cX4_readNumber 38 = .ok (.aload_n 0, 1) := by decide +kernel
theorem dX4_readNumber_39 : decode cX4_readNumber 39 = .ok (.getfield 113, 3) := by decide +kernel
theorem dX4_readNumber_42 : decode cX4_readNumber 42 = .ok (.istore_n 3, 1) := by decide +kernel
theorem dX4_readNumber_43 : decode cX4_readNumber 43 = .ok (.aload_n 0, 1) := by decide +kernel
theorem dX4_readNumber_44 : decode cX4_readNumber 44 = .ok (.invokevirtual 50, 3) := by decide +kernel
theorem dX4_readNumber_47 : decode cX4_readNumber 47 = .ok (.iload_n 3, 1) := by decide +kernel
theorem dX4_readNumber_48 : decode cX4_readNumber 48 = .ok (.ireturn, 1) := by decide +kernel
theorem dX4_lineNamed_0 : decode cX4_lineNamed 0 = .ok (.aload_n 0, 1) := by decide +kernel
theorem dX4_lineNamed_1 : decode cX4_lineNamed 1 = .ok (.ldc 116, 2) := by decide +kernel
theorem dX4_lineNamed_3 : decode cX4_lineNamed 3 = .ok (.invokevirtual 117, 3) := by decide +kernel
theorem dX4_lineNamed_6 : decode cX4_lineNamed 6 = .ok (.ifCond .eq 5, 3) := by decide +kernel
theorem dX4_lineNamed_9 : decode cX4_lineNamed 9 = .ok (.iconst 0, 1) := by decide +kernel
theorem dX4_lineNamed_10 : decode cX4_lineNamed 10 = .ok (.ireturn, 1) := by decide +kernel
theorem dX4_lineNamed_11 : decode cX4_lineNamed 11 = .ok (.aload_n 0, 1) := by decide +kernel
theorem dX4_lineNamed_12 : decode cX4_lineNamed 12 = .ok (.ldc 121, 2) := by decide +kernel
theorem dX4_lineNamed_14 : decode cX4_lineNamed 14 = .ok (.invokevirtual 117, 3) := by decide +kernel
theorem dX4_lineNamed_17 : decode cX4_lineNamed 17 = .ok (.ifCond .eq 5, 3) := by decide +kernel
theorem dX4_lineNamed_20 : decode cX4_lineNamed 20 = .ok (.iconst 1, 1) := by decide +kernel
theorem dX4_lineNamed_21 : decode cX4_lineNamed 21 = .ok (.ireturn, 1) := by decide +kernel
theorem dX4_lineNamed_22 : decode cX4_lineNamed 22 = .ok (.aload_n 0, 1) := by decide +kernel
theorem dX4_lineNamed_23 : decode cX4_lineNamed 23 = .ok (.ldc 122, 2) := by decide +kernel
theorem dX4_lineNamed_25 : decode cX4_lineNamed 25 = .ok (.invokevirtual 117, 3) := by decide +kernel
theorem dX4_lineNamed_28 : decode cX4_lineNamed 28 = .ok (.ifCond .eq 5, 3) := by decide +kernel
theorem dX4_lineNamed_31 : decode cX4_lineNamed 31 = .ok (.iconst 2, 1) := by decide +kernel
theorem dX4_lineNamed_32 : decode cX4_lineNamed 32 = .ok (.ireturn, 1) := by decide +kernel
theorem dX4_lineNamed_33 : decode cX4_lineNamed 33 = .ok (.aload_n 0, 1) := by decide +kernel
theorem dX4_lineNamed_34 : decode cX4_lineNamed 34 = .ok (.ldc 124, 2) := by decide +kernel
theorem dX4_lineNamed_36 : decode cX4_lineNamed 36 = .ok (.invokevirtual 117, 3) := by decide +kernel
theorem dX4_lineNamed_39 : decode cX4_lineNamed 39 = .ok (.ifCond .eq 5, 3) := by decide +kernel
theorem dX4_lineNamed_42 : decode cX4_lineNamed 42 = .ok (.iconst 3, 1) := by decide +kernel
theorem dX4_lineNamed_43 : decode cX4_lineNamed 43 = .ok (.ireturn, 1) := by decide +kernel
theorem dX4_lineNamed_44 : decode cX4_lineNamed 44 = .ok (.aload_n 0, 1) := by decide +kernel
theorem dX4_lineNamed_45 : decode cX4_lineNamed 45 = .ok (.ldc 125, 2) := by decide +kernel
theorem dX4_lineNamed_47 : decode cX4_lineNamed 47 = .ok (.invokevirtual 117, 3) := by decide +kernel
theorem dX4_lineNamed_50 : decode cX4_lineNamed 50 = .ok (.ifCond .eq 5, 3) := by decide +kernel
theorem dX4_lineNamed_53 : decode cX4_lineNamed 53 = .ok (.iconst 4, 1) := by decide +kernel
theorem dX4_lineNamed_54 : decode cX4_lineNamed 54 = .ok (.ireturn, 1) := by decide +kernel
theorem dX4_lineNamed_55 : decode cX4_lineNamed 55 = .ok (.aload_n 0, 1) := by decide +kernel
theorem dX4_lineNamed_56 : decode cX4_lineNamed 56 = .ok (.ldc 126, 2) := by decide +kernel
theorem dX4_lineNamed_58 : decode cX4_lineNamed 58 = .ok (.invokevirtual 117, 3) := by decide +kernel
theorem dX4_lineNamed_61 : decode cX4_lineNamed 61 = .ok (.ifCond .eq 7, 3) := by decide +kernel
theorem dX4_lineNamed_64 : decode cX4_lineNamed 64 = .ok (.iconst 5, 1) := by decide +kernel
theorem dX4_lineNamed_65 : decode cX4_lineNamed 65 = .ok (.goto 4, 3) := by decide +kernel
theorem dX4_lineNamed_68 : decode cX4_lineNamed 68 = .ok (.iconst (-1), 1) := by decide +kernel
theorem dX4_lineNamed_69 : decode cX4_lineNamed 69 = .ok (.ireturn, 1) := by decide +kernel
theorem dX4_wayNamed_0 : decode cX4_wayNamed 0 = .ok (.aload_n 0, 1) := by decide +kernel
theorem dX4_wayNamed_1 : decode cX4_wayNamed 1 = .ok (.ldc 127, 2) := by decide +kernel
theorem dX4_wayNamed_3 : decode cX4_wayNamed 3 = .ok (.invokevirtual 117, 3) := by decide +kernel
theorem dX4_wayNamed_6 : decode cX4_wayNamed 6 = .ok (.ifCond .eq 5, 3) := by decide +kernel
theorem dX4_wayNamed_9 : decode cX4_wayNamed 9 = .ok (.iconst 0, 1) := by decide +kernel
theorem dX4_wayNamed_10 : decode cX4_wayNamed 10 = .ok (.ireturn, 1) := by decide +kernel
theorem dX4_wayNamed_11 : decode cX4_wayNamed 11 = .ok (.aload_n 0, 1) := by decide +kernel
theorem dX4_wayNamed_12 : decode cX4_wayNamed 12 = .ok (.ldc 121, 2) := by decide +kernel
theorem dX4_wayNamed_14 : decode cX4_wayNamed 14 = .ok (.invokevirtual 117, 3) := by decide +kernel
theorem dX4_wayNamed_17 : decode cX4_wayNamed 17 = .ok (.ifCond .eq 5, 3) := by decide +kernel
theorem dX4_wayNamed_20 : decode cX4_wayNamed 20 = .ok (.iconst 1, 1) := by decide +kernel
theorem dX4_wayNamed_21 : decode cX4_wayNamed 21 = .ok (.ireturn, 1) := by decide +kernel
theorem dX4_wayNamed_22 : decode cX4_wayNamed 22 = .ok (.aload_n 0, 1) := by decide +kernel
theorem dX4_wayNamed_23 : decode cX4_wayNamed 23 = .ok (.ldc 129, 2) := by decide +kernel
theorem dX4_wayNamed_25 : decode cX4_wayNamed 25 = .ok (.invokevirtual 117, 3) := by decide +kernel
theorem dX4_wayNamed_28 : decode cX4_wayNamed 28 = .ok (.ifCond .eq 7, 3) := by decide +kernel
theorem dX4_wayNamed_31 : decode cX4_wayNamed 31 = .ok (.iconst 2, 1) := by decide +kernel
theorem dX4_wayNamed_32 : decode cX4_wayNamed 32 = .ok (.goto 4, 3) := by decide +kernel
theorem dX4_wayNamed_35 : decode cX4_wayNamed 35 = .ok (.iconst (-1), 1) := by decide +kernel
theorem dX4_wayNamed_36 : decode cX4_wayNamed 36 = .ok (.ireturn, 1) := by decide +kernel
theorem dX4_isWord_0 : decode cX4_isWord 0 = .ok (.aload_n 0, 1) := by decide +kernel
theorem dX4_isWord_1 : decode cX4_isWord 1 = .ok (.getfield 53, 3) := by decide +kernel
theorem dX4_isWord_4 : decode cX4_isWord 4 = .ok (.iconst 1, 1) := by decide +kernel
theorem dX4_isWord_5 : decode cX4_isWord 5 = .ok (.if_icmp .ne 19, 3) := by decide +kernel
theorem dX4_isWord_8 : decode cX4_isWord 8 = .ok (.aload_n 0, 1) := by decide +kernel
theorem dX4_isWord_9 : decode cX4_isWord 9 = .ok (.getfield 41, 3) := by decide +kernel
theorem dX4_isWord_12 : decode cX4_isWord 12 = .ok (.aload_n 0, 1) := by decide +kernel
theorem dX4_isWord_13 : decode cX4_isWord 13 = .ok (.getfield 67, 3) := by decide +kernel
theorem dX4_isWord_16 : decode cX4_isWord 16 = .ok (.isub, 1) := by decide +kernel
theorem dX4_isWord_17 : decode cX4_isWord 17 = .ok (.aload_n 1, 1) := by decide +kernel
theorem dX4_isWord_18 : decode cX4_isWord 18 = .ok (.invokevirtual 131, 3) := by decide +kernel
theorem dX4_isWord_21 : decode cX4_isWord 21 = .ok (.if_icmp .eq 5, 3) := by decide +kernel
theorem dX4_isWord_24 : decode cX4_isWord 24 = .ok (.iconst 0, 1) := by decide +kernel
theorem dX4_isWord_25 : decode cX4_isWord 25 = .ok (.ireturn, 1) := by decide +kernel
theorem dX4_isWord_26 : decode cX4_isWord 26 = .ok (.iconst 0, 1) := by decide +kernel
theorem dX4_isWord_27 : decode cX4_isWord 27 = .ok (.istore_n 2, 1) := by decide +kernel
theorem dX4_isWord_28 : decode cX4_isWord 28 = .ok (.iload_n 2, 1) := by decide +kernel
theorem dX4_isWord_29 : decode cX4_isWord 29 = .ok (.aload_n 1, 1) := by decide +kernel
theorem dX4_isWord_30 : decode cX4_isWord 30 = .ok (.invokevirtual 131, 3) := by decide +kernel
theorem dX4_isWord_33 : decode cX4_isWord 33 = .ok (.if_icmp .ge 29, 3) := by decide +kernel
theorem dX4_isWord_36 : decode cX4_isWord 36 = .ok (.aload_n 0, 1) := by decide +kernel
theorem dX4_isWord_37 : decode cX4_isWord 37 = .ok (.aload_n 0, 1) := by decide +kernel
theorem dX4_isWord_38 : decode cX4_isWord 38 = .ok (.getfield 67, 3) := by decide +kernel
theorem dX4_isWord_41 : decode cX4_isWord 41 = .ok (.iload_n 2, 1) := by decide +kernel
theorem dX4_isWord_42 : decode cX4_isWord 42 = .ok (.iadd, 1) := by decide +kernel
theorem dX4_isWord_43 : decode cX4_isWord 43 = .ok (.invokevirtual 135, 3) := by decide +kernel
theorem dX4_isWord_46 : decode cX4_isWord 46 = .ok (.aload_n 1, 1) := by decide +kernel
theorem dX4_isWord_47 : decode cX4_isWord 47 = .ok (.iload_n 2, 1) := by decide +kernel
theorem dX4_isWord_48 : decode cX4_isWord 48 = .ok (.invokevirtual 139, 3) := by decide +kernel
theorem dX4_isWord_51 : decode cX4_isWord 51 = .ok (.if_icmp .eq 5, 3) := by decide +kernel
theorem dX4_isWord_54 : decode cX4_isWord 54 = .ok (.iconst 0, 1) := by decide +kernel
theorem dX4_isWord_55 : decode cX4_isWord 55 = .ok (.ireturn, 1) := by decide +kernel
theorem dX4_isWord_56 : decode cX4_isWord 56 = .ok (.iinc 2 1, 3) := by decide +kernel
theorem dX4_isWord_59 : decode cX4_isWord 59 = .ok (.goto (-31), 3) := by decide +kernel
theorem dX4_isWord_62 : decode cX4_isWord 62 = .ok (.iconst 1, 1) := by decide +kernel
theorem dX4_isWord_63 : decode cX4_isWord 63 = .ok (.ireturn, 1) := by decide +kernel
theorem dX4_advance_0 : decode cX4_advance 0 = .ok (.aload_n 0, 1) := by decide +kernel
theorem dX4_advance_1 : decode cX4_advance 1 = .ok (.aload_n 0, 1) := by decide +kernel
theorem dX4_advance_2 : decode cX4_advance 2 = .ok (.getfield 41, 3) := by decide +kernel
theorem dX4_advance_5 : decode cX4_advance 5 = .ok (.putfield 67, 3) := by decide +kernel
theorem dX4_advance_8 : decode cX4_advance 8 = .ok (.aload_n 0, 1) := by decide +kernel
theorem dX4_advance_9 : decode cX4_advance 9 = .ok (.getfield 67, 3) := by decide +kernel
theorem dX4_advance_12 : decode cX4_advance 12 = .ok (.aload_n 0, 1) := by decide +kernel
theorem dX4_advance_13 : decode cX4_advance 13 = .ok (.getfield 38, 3) := by decide +kernel
theorem dX4_advance_16 : decode cX4_advance 16 = .ok (.if_icmp .ge 30, 3) := by decide +kernel
theorem dX4_advance_19 : decode cX4_advance 19 = .ok (.aload_n 0, 1) := by decide +kernel
theorem dX4_advance_20 : decode cX4_advance 20 = .ok (.aload_n 0, 1) := by decide +kernel
theorem dX4_advance_21 : decode cX4_advance 21 = .ok (.getfield 67, 3) := by decide +kernel
theorem dX4_advance_24 : decode cX4_advance 24 = .ok (.invokevirtual 135, 3) := by decide +kernel
theorem dX4_advance_27 : decode cX4_advance 27 = .ok (.invokestatic 143, 3) := by decide +kernel
theorem dX4_advance_30 : decode cX4_advance 30 = .ok (.ifCond .eq 16, 3) := by decide +kernel
theorem dX4_advance_33 : decode cX4_advance 33 = .ok (.aload_n 0, 1) := by decide +kernel
theorem dX4_advance_34 : decode cX4_advance 34 = .ok (.dup, 1) := by decide +kernel
theorem dX4_advance_35 : decode cX4_advance 35 = .ok (.getfield 67, 3) := by decide +kernel
theorem dX4_advance_38 : decode cX4_advance 38 = .ok (.iconst 1, 1) := by decide +kernel
theorem dX4_advance_39 : decode cX4_advance 39 = .ok (.iadd, 1) := by decide +kernel
theorem dX4_advance_40 : decode cX4_advance 40 = .ok (.putfield 67, 3) := by decide +kernel
theorem dX4_advance_43 : decode cX4_advance 43 = .ok (.goto (-35), 3) := by decide +kernel
theorem dX4_advance_46 : decode cX4_advance 46 = .ok (.aload_n 0, 1) := by decide +kernel
theorem dX4_advance_47 : decode cX4_advance 47 = .ok (.aload_n 0, 1) := by decide +kernel
theorem dX4_advance_48 : decode cX4_advance 48 = .ok (.getfield 67, 3) := by decide +kernel
theorem dX4_advance_51 : decode cX4_advance 51 = .ok (.putfield 41, 3) := by decide +kernel
theorem dX4_advance_54 : decode cX4_advance 54 = .ok (.aload_n 0, 1) := by decide +kernel
theorem dX4_advance_55 : decode cX4_advance 55 = .ok (.getfield 67, 3) := by decide +kernel
theorem dX4_advance_58 : decode cX4_advance 58 = .ok (.aload_n 0, 1) := by decide +kernel
theorem dX4_advance_59 : decode cX4_advance 59 = .ok (.getfield 38, 3) := by decide +kernel
theorem dX4_advance_62 : decode cX4_advance 62 = .ok (.if_icmp .lt 9, 3) := by decide +kernel
theorem dX4_advance_65 : decode cX4_advance 65 = .ok (.aload_n 0, 1) := by decide +kernel
theorem dX4_advance_66 : decode cX4_advance 66 = .ok (.iconst 0, 1) := by decide +kernel
theorem dX4_advance_67 : decode cX4_advance 67 = .ok (.putfield 53, 3) := by decide +kernel
theorem dX4_advance_70 : decode cX4_advance 70 = .ok (.return_, 1) := by decide +kernel
theorem dX4_advance_71 : decode cX4_advance 71 = .ok (.aload_n 0, 1) := by decide +kernel
theorem dX4_advance_72 : decode cX4_advance 72 = .ok (.aload_n 0, 1) := by decide +kernel
theorem dX4_advance_73 : decode cX4_advance 73 = .ok (.getfield 67, 3) := by decide +kernel
theorem dX4_advance_76 : decode cX4_advance 76 = .ok (.invokevirtual 135, 3) := by decide +kernel
theorem dX4_advance_79 : decode cX4_advance 79 = .ok (.istore_n 1, 1) := by decide +kernel
theorem dX4_advance_80 : decode cX4_advance 80 = .ok (.iload_n 1, 1) := by decide +kernel
theorem dX4_advance_81 : decode cX4_advance 81 = .ok (.invokestatic 147, 3) := by decide +kernel
theorem dX4_advance_84 : decode cX4_advance 84 = .ok (.ifCond .eq 46, 3) := by decide +kernel
theorem dX4_advance_87 : decode cX4_advance 87 = .ok (.aload_n 0, 1) := by decide +kernel
theorem dX4_advance_88 : decode cX4_advance 88 = .ok (.iconst 1, 1) := by decide +kernel
theorem dX4_advance_89 : decode cX4_advance 89 = .ok (.putfield 53, 3) := by decide +kernel
theorem dX4_advance_92 : decode cX4_advance 92 = .ok (.aload_n 0, 1) := by decide +kernel
theorem dX4_advance_93 : decode cX4_advance 93 = .ok (.getfield 41, 3) := by decide +kernel
theorem dX4_advance_96 : decode cX4_advance 96 = .ok (.aload_n 0, 1) := by decide +kernel
theorem dX4_advance_97 : decode cX4_advance 97 = .ok (.getfield 38, 3) := by decide +kernel
theorem dX4_advance_100 : decode cX4_advance 100 = .ok (.if_icmp .ge 74, 3) := by decide +kernel
theorem dX4_advance_103 : decode cX4_advance 103 = .ok (.aload_n 0, 1) := by decide +kernel
theorem dX4_advance_104 : decode cX4_advance 104 = .ok (.aload_n 0, 1) := by decide +kernel
theorem dX4_advance_105 : decode cX4_advance 105 = .ok (.getfield 41, 3) := by decide +kernel
theorem dX4_advance_108 : decode cX4_advance 108 = .ok (.invokevirtual 135, 3) := by decide +kernel
theorem dX4_advance_111 : decode cX4_advance 111 = .ok (.invokestatic 147, 3) := by decide +kernel
theorem dX4_advance_114 : decode cX4_advance 114 = .ok (.ifCond .eq 60, 3) := by decide +kernel
theorem dX4_advance_117 : decode cX4_advance 117 = .ok (.aload_n 0, 1) := by decide +kernel
theorem dX4_advance_118 : decode cX4_advance 118 = .ok (.dup, 1) := by decide +kernel
theorem dX4_advance_119 : decode cX4_advance 119 = .ok (.getfield 41, 3) := by decide +kernel
theorem dX4_advance_122 : decode cX4_advance 122 = .ok (.iconst 1, 1) := by decide +kernel
theorem dX4_advance_123 : decode cX4_advance 123 = .ok (.iadd, 1) := by decide +kernel
theorem dX4_advance_124 : decode cX4_advance 124 = .ok (.putfield 41, 3) := by decide +kernel
theorem dX4_advance_127 : decode cX4_advance 127 = .ok (.goto (-35), 3) := by decide +kernel
theorem dX4_advance_130 : decode cX4_advance 130 = .ok (.iload_n 1, 1) := by decide +kernel
theorem dX4_advance_131 : decode cX4_advance 131 = .ok (.invokestatic 150, 3) := by decide +kernel
theorem dX4_advance_134 : decode cX4_advance 134 = .ok (.ifCond .eq 15, 3) := by decide +kernel
theorem dX4_advance_137 : decode cX4_advance 137 = .ok (.aload_n 0, 1) := by decide +kernel
theorem dX4_advance_138 : decode cX4_advance 138 = .ok (.iconst 2, 1) := by decide +kernel
theorem dX4_advance_139 : decode cX4_advance 139 = .ok (.putfield 53, 3) := by decide +kernel
theorem dX4_advance_142 : decode cX4_advance 142 = .ok (.aload_n 0, 1) := by decide +kernel
theorem dX4_advance_143 : decode cX4_advance 143 = .ok (.invokevirtual 153, 3) := by decide +kernel
theorem dX4_advance_146 : decode cX4_advance 146 = .ok (.goto 28, 3) := by decide +kernel
theorem dX4_advance_149 : decode cX4_advance 149 = .ok (.aload_n 0, 1) := by decide +kernel
theorem dX4_advance_150 : decode cX4_advance 150 = .ok (.iload_n 1, 1) := by decide +kernel
theorem dX4_advance_151 : decode cX4_advance 151 = .ok (.bipush 59, 2) := by decide +kernel
theorem dX4_advance_153 : decode cX4_advance 153 = .ok (.if_icmp .ne 7, 3) := by decide +kernel
theorem dX4_advance_156 : decode cX4_advance 156 = .ok (.iconst 3, 1) := by decide +kernel
theorem dX4_advance_157 : decode cX4_advance 157 = .ok (.goto 4, 3) := by decide +kernel
theorem dX4_advance_160 : decode cX4_advance 160 = .ok (.iconst 4, 1) := by decide +kernel
theorem dX4_advance_161 : decode cX4_advance 161 = .ok (.putfield 53, 3) := by decide +kernel
theorem dX4_advance_164 : decode cX4_advance 164 = .ok (.aload_n 0, 1) := by decide +kernel
theorem dX4_advance_165 : decode cX4_advance 165 = .ok (.aload_n 0, 1) := by decide +kernel
theorem dX4_advance_166 : decode cX4_advance 166 = .ok (.getfield 67, 3) := by decide +kernel
theorem dX4_advance_169 : decode cX4_advance 169 = .ok (.iconst 1, 1) := by decide +kernel
theorem dX4_advance_170 : decode cX4_advance 170 = .ok (.iadd, 1) := by decide +kernel
theorem dX4_advance_171 : decode cX4_advance 171 = .ok (.putfield 41, 3) := by decide +kernel
theorem dX4_advance_174 : decode cX4_advance 174 = .ok (.return_, 1) := by decide +kernel
theorem dX4_scanDigits_0 : decode cX4_scanDigits 0 = .ok (.aload_n 0, 1) := by decide +kernel
theorem dX4_scanDigits_1 : decode cX4_scanDigits 1 = .ok (.iconst 0, 1) := by decide +kernel
theorem dX4_scanDigits_2 : decode cX4_scanDigits 2 = .ok (.putfield 113, 3) := by decide +kernel
theorem dX4_scanDigits_5 : decode cX4_scanDigits 5 = .ok (.aload_n 0, 1) := by decide +kernel
theorem dX4_scanDigits_6 : decode cX4_scanDigits 6 = .ok (.getfield 41, 3) := by decide +kernel
theorem dX4_scanDigits_9 : decode cX4_scanDigits 9 = .ok (.aload_n 0, 1) := by decide +kernel
theorem dX4_scanDigits_10 : decode cX4_scanDigits 10 = .ok (.getfield 38, 3) := by decide +kernel
theorem dX4_scanDigits_13 : decode cX4_scanDigits 13 = .ok (.if_icmp .ge 58, 3) := by decide +kernel
theorem dX4_scanDigits_16 : decode cX4_scanDigits 16 = .ok (.aload_n 0, 1) := by decide +kernel
theorem dX4_scanDigits_17 : decode cX4_scanDigits 17 = .ok (.aload_n 0, 1) := by decide +kernel
theorem dX4_scanDigits_18 : decode cX4_scanDigits 18 = .ok (.getfield 41, 3) := by decide +kernel
theorem dX4_scanDigits_21 : decode cX4_scanDigits 21 = .ok (.invokevirtual 135, 3) := by decide +kernel
theorem dX4_scanDigits_24 : decode cX4_scanDigits 24 = .ok (.invokestatic 150, 3) := by decide +kernel
theorem dX4_scanDigits_27 : decode cX4_scanDigits 27 = .ok (.ifCond .eq 44, 3) := by decide +kernel
theorem dX4_scanDigits_30 : decode cX4_scanDigits 30 = .ok (.aload_n 0, 1) := by decide +kernel
theorem dX4_scanDigits_31 : decode cX4_scanDigits 31 = .ok (.ldc 156, 2) := by decide +kernel
theorem dX4_scanDigits_33 : decode cX4_scanDigits 33 = .ok (.aload_n 0, 1) := by decide +kernel
theorem dX4_scanDigits_34 : decode cX4_scanDigits 34 = .ok (.getfield 113, 3) := by decide +kernel
theorem dX4_scanDigits_37 : decode cX4_scanDigits 37 = .ok (.bipush 10, 2) := by decide +kernel
theorem dX4_scanDigits_39 : decode cX4_scanDigits 39 = .ok (.imul, 1) := by decide +kernel
theorem dX4_scanDigits_40 : decode cX4_scanDigits 40 = .ok (.aload_n 0, 1) := by decide +kernel
theorem dX4_scanDigits_41 : decode cX4_scanDigits 41 = .ok (.aload_n 0, 1) := by decide +kernel
theorem dX4_scanDigits_42 : decode cX4_scanDigits 42 = .ok (.getfield 41, 3) := by decide +kernel
theorem dX4_scanDigits_45 : decode cX4_scanDigits 45 = .ok (.invokevirtual 135, 3) := by decide +kernel
theorem dX4_scanDigits_48 : decode cX4_scanDigits 48 = .ok (.iadd, 1) := by decide +kernel
theorem dX4_scanDigits_49 : decode cX4_scanDigits 49 = .ok (.bipush 48, 2) := by decide +kernel
theorem dX4_scanDigits_51 : decode cX4_scanDigits 51 = .ok (.isub, 1) := by decide +kernel
theorem dX4_scanDigits_52 : decode cX4_scanDigits 52 = .ok (.invokestatic 32, 3) := by decide +kernel
theorem dX4_scanDigits_55 : decode cX4_scanDigits 55 = .ok (.putfield 113, 3) := by decide +kernel
theorem dX4_scanDigits_58 : decode cX4_scanDigits 58 = .ok (.aload_n 0, 1) := by decide +kernel
theorem dX4_scanDigits_59 : decode cX4_scanDigits 59 = .ok (.dup, 1) := by decide +kernel
theorem dX4_scanDigits_60 : decode cX4_scanDigits 60 = .ok (.getfield 41, 3) := by decide +kernel
theorem dX4_scanDigits_63 : decode cX4_scanDigits 63 = .ok (.iconst 1, 1) := by decide +kernel
theorem dX4_scanDigits_64 : decode cX4_scanDigits 64 = .ok (.iadd, 1) := by decide +kernel
theorem dX4_scanDigits_65 : decode cX4_scanDigits 65 = .ok (.putfield 41, 3) := by decide +kernel
theorem dX4_scanDigits_68 : decode cX4_scanDigits 68 = .ok (.goto (-63), 3) := by decide +kernel
theorem dX4_scanDigits_71 : decode cX4_scanDigits 71 = .ok (.return_, 1) := by decide +kernel
theorem dX4_signAt_0 : decode cX4_signAt 0 = .ok (.iload_n 1, 1) := by decide +kernel
theorem dX4_signAt_1 : decode cX4_signAt 1 = .ok (.ifCond .lt 24, 3) := by decide +kernel
theorem dX4_signAt_4 : decode cX4_signAt 4 = .ok (.iload_n 1, 1) := by decide +kernel
theorem dX4_signAt_5 : decode cX4_signAt 5 = .ok (.aload_n 0, 1) := by decide +kernel
theorem dX4_signAt_6 : decode cX4_signAt 6 = .ok (.getfield 38, 3) := by decide +kernel
theorem dX4_signAt_9 : decode cX4_signAt 9 = .ok (.if_icmp .ge 16, 3) := by decide +kernel
theorem dX4_signAt_12 : decode cX4_signAt 12 = .ok (.aload_n 0, 1) := by decide +kernel
theorem dX4_signAt_13 : decode cX4_signAt 13 = .ok (.getfield 25, 3) := by decide +kernel
theorem dX4_signAt_16 : decode cX4_signAt 16 = .ok (.iload_n 1, 1) := by decide +kernel
theorem dX4_signAt_17 : decode cX4_signAt 17 = .ok (.baload, 1) := by decide +kernel
theorem dX4_signAt_18 : decode cX4_signAt 18 = .ok (.sipush 255, 3) := by decide +kernel
theorem dX4_signAt_21 : decode cX4_signAt 21 = .ok (.iand, 1) := by decide +kernel
theorem dX4_signAt_22 : decode cX4_signAt 22 = .ok (.goto 4, 3) := by decide +kernel
theorem dX4_signAt_25 : decode cX4_signAt 25 = .ok (.iconst 0, 1) := by decide +kernel
theorem dX4_signAt_26 : decode cX4_signAt 26 = .ok (.ireturn, 1) := by decide +kernel
theorem dX4_isBlank_0 : decode cX4_isBlank 0 = .ok (.iload_n 0, 1) := by decide +kernel
theorem dX4_isBlank_1 : decode cX4_isBlank 1 = .ok (.bipush 10, 2) := by decide +kernel
theorem dX4_isBlank_3 : decode cX4_isBlank 3 = .ok (.if_icmp .eq 9, 3) := by decide +kernel
theorem dX4_isBlank_6 : decode cX4_isBlank 6 = .ok (.iload_n 0, 1) := by decide +kernel
theorem dX4_isBlank_7 : decode cX4_isBlank 7 = .ok (.bipush 32, 2) := by decide +kernel
theorem dX4_isBlank_9 : decode cX4_isBlank 9 = .ok (.if_icmp .ne 7, 3) := by decide +kernel
theorem dX4_isBlank_12 : decode cX4_isBlank 12 = .ok (.iconst 1, 1) := by decide +kernel
theorem dX4_isBlank_13 : decode cX4_isBlank 13 = .ok (.goto 4, 3) := by decide +kernel
theorem dX4_isBlank_16 : decode cX4_isBlank 16 = .ok (.iconst 0, 1) := by decide +kernel
theorem dX4_isBlank_17 : decode cX4_isBlank 17 = .ok (.ireturn, 1) := by decide +kernel
theorem dX4_isLetter_0 : decode cX4_isLetter 0 = .ok (.iload_n 0, 1) := by decide +kernel
theorem dX4_isLetter_1 : decode cX4_isLetter 1 = .ok (.bipush 97, 2) := by decide +kernel
theorem dX4_isLetter_3 : decode cX4_isLetter 3 = .ok (.if_icmp .lt 13, 3) := by decide +kernel
theorem dX4_isLetter_6 : decode cX4_isLetter 6 = .ok (.iload_n 0, 1) := by decide +kernel
theorem dX4_isLetter_7 : decode cX4_isLetter 7 = .ok (.bipush 122, 2) := by decide +kernel
theorem dX4_isLetter_9 : decode cX4_isLetter 9 = .ok (.if_icmp .gt 7, 3) := by decide +kernel
theorem dX4_isLetter_12 : decode cX4_isLetter 12 = .ok (.iconst 1, 1) := by decide +kernel
theorem dX4_isLetter_13 : decode cX4_isLetter 13 = .ok (.goto 4, 3) := by decide +kernel
theorem dX4_isLetter_16 : decode cX4_isLetter 16 = .ok (.iconst 0, 1) := by decide +kernel
theorem dX4_isLetter_17 : decode cX4_isLetter 17 = .ok (.ireturn, 1) := by decide +kernel
theorem dX4_isDigit_0 : decode cX4_isDigit 0 = .ok (.iload_n 0, 1) := by decide +kernel
theorem dX4_isDigit_1 : decode cX4_isDigit 1 = .ok (.bipush 48, 2) := by decide +kernel
theorem dX4_isDigit_3 : decode cX4_isDigit 3 = .ok (.if_icmp .lt 13, 3) := by decide +kernel
theorem dX4_isDigit_6 : decode cX4_isDigit 6 = .ok (.iload_n 0, 1) := by decide +kernel
theorem dX4_isDigit_7 : decode cX4_isDigit 7 = .ok (.bipush 57, 2) := by decide +kernel
theorem dX4_isDigit_9 : decode cX4_isDigit 9 = .ok (.if_icmp .gt 7, 3) := by decide +kernel
theorem dX4_isDigit_12 : decode cX4_isDigit 12 = .ok (.iconst 1, 1) := by decide +kernel
theorem dX4_isDigit_13 : decode cX4_isDigit 13 = .ok (.goto 4, 3) := by decide +kernel
theorem dX4_isDigit_16 : decode cX4_isDigit 16 = .ok (.iconst 0, 1) := by decide +kernel
theorem dX4_isDigit_17 : decode cX4_isDigit 17 = .ok (.ireturn, 1) := by decide +kernel
theorem dX5_init_0 : decode cX5_init 0 = .ok (.aload_n 0, 1) := by decide +kernel
theorem dX5_init_1 : decode cX5_init 1 = .ok (.invokespecial 3, 3) := by decide +kernel
theorem dX5_init_4 : decode cX5_init 4 = .ok (.aload_n 0, 1) := by decide +kernel
theorem dX5_init_5 : decode cX5_init 5 = .ok (.bipush 8, 2) := by decide +kernel
theorem dX5_init_7 : decode cX5_init 7 = .ok (.newarray .int, 2) := by decide +kernel
theorem dX5_init_9 : decode cX5_init 9 = .ok (.putfield 11, 3) := by decide +kernel
theorem dX5_init_12 : decode cX5_init 12 = .ok (.aload_n 0, 1) := by decide +kernel
theorem dX5_init_13 : decode cX5_init 13 = .ok (.invokevirtual 15, 3) := by decide +kernel
theorem dX5_init_16 : decode cX5_init 16 = .ok (.return_, 1) := by decide +kernel
theorem dX5_sayNothing_0 : decode cX5_sayNothing 0 = .ok (.aload_n 0, 1) := by decide +kernel
theorem dX5_sayNothing_1 : decode cX5_sayNothing 1 = .ok (.getfield 11, 3) := by decide +kernel
theorem dX5_sayNothing_4 : decode cX5_sayNothing 4 = .ok (.iconst 0, 1) := by decide +kernel
theorem dX5_sayNothing_5 : decode cX5_sayNothing 5 = .ok (.iconst 2, 1) := by decide +kernel
theorem dX5_sayNothing_6 : decode cX5_sayNothing 6 = .ok (.iastore, 1) := by decide +kernel
theorem dX5_sayNothing_7 : decode cX5_sayNothing 7 = .ok (.aload_n 0, 1) := by decide +kernel
theorem dX5_sayNothing_8 : decode cX5_sayNothing 8 = .ok (.iconst 1, 1) := by decide +kernel
theorem dX5_sayNothing_9 : decode cX5_sayNothing 9 = .ok (.putfield 18, 3) := by decide +kernel
theorem dX5_sayNothing_12 : decode cX5_sayNothing 12 = .ok (.aload_n 0, 1) := by decide +kernel
theorem dX5_sayNothing_13 : decode cX5_sayNothing 13 = .ok (.iconst 0, 1) := by decide +kernel
theorem dX5_sayNothing_14 : decode cX5_sayNothing 14 = .ok (.putfield 22, 3) := by decide +kernel
theorem dX5_sayNothing_17 : decode cX5_sayNothing 17 = .ok (.aload_n 0, 1) := by decide +kernel
theorem dX5_sayNothing_18 : decode cX5_sayNothing 18 = .ok (.bipush 100, 2) := by decide +kernel
theorem dX5_sayNothing_20 : decode cX5_sayNothing 20 = .ok (.putfield 25, 3) := by decide +kernel
theorem dX5_sayNothing_23 : decode cX5_sayNothing 23 = .ok (.aload_n 0, 1) := by decide +kernel
theorem dX5_sayNothing_24 : decode cX5_sayNothing 24 = .ok (.bipush 7, 2) := by decide +kernel
theorem dX5_sayNothing_26 : decode cX5_sayNothing 26 = .ok (.putfield 28, 3) := by decide +kernel
theorem dX5_sayNothing_29 : decode cX5_sayNothing 29 = .ok (.aload_n 0, 1) := by decide +kernel
theorem dX5_sayNothing_30 : decode cX5_sayNothing 30 = .ok (.bipush 14, 2) := by decide +kernel
theorem dX5_sayNothing_32 : decode cX5_sayNothing 32 = .ok (.putfield 31, 3) := by decide +kernel
theorem dX5_sayNothing_35 : decode cX5_sayNothing 35 = .ok (.aload_n 0, 1) := by decide +kernel
theorem dX5_sayNothing_36 : decode cX5_sayNothing 36 = .ok (.iconst 3, 1) := by decide +kernel
theorem dX5_sayNothing_37 : decode cX5_sayNothing 37 = .ok (.putfield 34, 3) := by decide +kernel
theorem dX5_sayNothing_40 : decode cX5_sayNothing 40 = .ok (.aload_n 0, 1) := by decide +kernel
theorem dX5_sayNothing_41 : decode cX5_sayNothing 41 = .ok (.iconst 1, 1) := by decide +kernel
theorem dX5_sayNothing_42 : decode cX5_sayNothing 42 = .ok (.putfield 37, 3) := by decide +kernel
theorem dX5_sayNothing_45 : decode cX5_sayNothing 45 = .ok (.aload_n 0, 1) := by decide +kernel
theorem dX5_sayNothing_46 : decode cX5_sayNothing 46 = .ok (.bipush 8, 2) := by decide +kernel
theorem dX5_sayNothing_48 : decode cX5_sayNothing 48 = .ok (.putfield 40, 3) := by decide +kernel
theorem dX5_sayNothing_51 : decode cX5_sayNothing 51 = .ok (.return_, 1) := by decide +kernel
theorem dX5_takeOver_0 : decode cX5_takeOver 0 = .ok (.aload_n 1, 1) := by decide +kernel
theorem dX5_takeOver_1 : decode cX5_takeOver 1 = .ok (.getfield 11, 3) := by decide +kernel
theorem dX5_takeOver_4 : decode cX5_takeOver 4 = .ok (.iconst 0, 1) := by decide +kernel
theorem dX5_takeOver_5 : decode cX5_takeOver 5 = .ok (.aload_n 0, 1) := by decide +kernel
theorem dX5_takeOver_6 : decode cX5_takeOver 6 = .ok (.getfield 11, 3) := by decide +kernel
theorem dX5_takeOver_9 : decode cX5_takeOver 9 = .ok (.iconst 0, 1) := by decide +kernel
theorem dX5_takeOver_10 : decode cX5_takeOver 10 = .ok (.bipush 8, 2) := by decide +kernel
theorem dX5_takeOver_12 : decode cX5_takeOver 12 = .ok (.invokestatic 43, 3) := by decide +kernel
theorem dX5_takeOver_15 : decode cX5_takeOver 15 = .ok (.aload_n 0, 1) := by decide +kernel
theorem dX5_takeOver_16 : decode cX5_takeOver 16 = .ok (.aload_n 1, 1) := by decide +kernel
theorem dX5_takeOver_17 : decode cX5_takeOver 17 = .ok (.getfield 18, 3) := by decide +kernel
theorem dX5_takeOver_20 : decode cX5_takeOver 20 = .ok (.putfield 18, 3) := by decide +kernel
theorem dX5_takeOver_23 : decode cX5_takeOver 23 = .ok (.aload_n 0, 1) := by decide +kernel
theorem dX5_takeOver_24 : decode cX5_takeOver 24 = .ok (.iconst 0, 1) := by decide +kernel
theorem dX5_takeOver_25 : decode cX5_takeOver 25 = .ok (.putfield 22, 3) := by decide +kernel
theorem dX5_takeOver_28 : decode cX5_takeOver 28 = .ok (.aload_n 0, 1) := by decide +kernel
theorem dX5_takeOver_29 : decode cX5_takeOver 29 = .ok (.aload_n 1, 1) := by decide +kernel
theorem dX5_takeOver_30 : decode cX5_takeOver 30 = .ok (.getfield 25, 3) := by decide +kernel
theorem dX5_takeOver_33 : decode cX5_takeOver 33 = .ok (.putfield 25, 3) := by decide +kernel
theorem dX5_takeOver_36 : decode cX5_takeOver 36 = .ok (.aload_n 0, 1) := by decide +kernel
theorem dX5_takeOver_37 : decode cX5_takeOver 37 = .ok (.aload_n 1, 1) := by decide +kernel
theorem dX5_takeOver_38 : decode cX5_takeOver 38 = .ok (.getfield 28, 3) := by decide +kernel
theorem dX5_takeOver_41 : decode cX5_takeOver 41 = .ok (.putfield 28, 3) := by decide +kernel
theorem dX5_takeOver_44 : decode cX5_takeOver 44 = .ok (.aload_n 0, 1) := by decide +kernel
theorem dX5_takeOver_45 : decode cX5_takeOver 45 = .ok (.aload_n 1, 1) := by decide +kernel
theorem dX5_takeOver_46 : decode cX5_takeOver 46 = .ok (.getfield 31, 3) := by decide +kernel
theorem dX5_takeOver_49 : decode cX5_takeOver 49 = .ok (.putfield 31, 3) := by decide +kernel
theorem dX5_takeOver_52 : decode cX5_takeOver 52 = .ok (.aload_n 0, 1) := by decide +kernel
theorem dX5_takeOver_53 : decode cX5_takeOver 53 = .ok (.aload_n 1, 1) := by decide +kernel
theorem dX5_takeOver_54 : decode cX5_takeOver 54 = .ok (.getfield 34, 3) := by decide +kernel
theorem dX5_takeOver_57 : decode cX5_takeOver 57 = .ok (.putfield 34, 3) := by decide +kernel
theorem dX5_takeOver_60 : decode cX5_takeOver 60 = .ok (.aload_n 0, 1) := by decide +kernel
theorem dX5_takeOver_61 : decode cX5_takeOver 61 = .ok (.aload_n 1, 1) := by decide +kernel
theorem dX5_takeOver_62 : decode cX5_takeOver 62 = .ok (.getfield 37, 3) := by decide +kernel
theorem dX5_takeOver_65 : decode cX5_takeOver 65 = .ok (.putfield 37, 3) := by decide +kernel
theorem dX5_takeOver_68 : decode cX5_takeOver 68 = .ok (.aload_n 0, 1) := by decide +kernel
theorem dX5_takeOver_69 : decode cX5_takeOver 69 = .ok (.aload_n 1, 1) := by decide +kernel
theorem dX5_takeOver_70 : decode cX5_takeOver 70 = .ok (.getfield 40, 3) := by decide +kernel
theorem dX5_takeOver_73 : decode cX5_takeOver 73 = .ok (.putfield 40, 3) := by decide +kernel
theorem dX5_takeOver_76 : decode cX5_takeOver 76 = .ok (.return_, 1) := by decide +kernel
theorem dX5_wayNext_0 : decode cX5_wayNext 0 = .ok (.aload_n 0, 1) := by decide +kernel
theorem dX5_wayNext_1 : decode cX5_wayNext 1 = .ok (.getfield 22, 3) := by decide +kernel
theorem dX5_wayNext_4 : decode cX5_wayNext 4 = .ok (.ifCond .lt 24, 3) := by decide +kernel
theorem dX5_wayNext_7 : decode cX5_wayNext 7 = .ok (.aload_n 0, 1) := by decide +kernel
theorem dX5_wayNext_8 : decode cX5_wayNext 8 = .ok (.getfield 22, 3) := by decide +kernel
theorem dX5_wayNext_11 : decode cX5_wayNext 11 = .ok (.bipush 8, 2) := by decide +kernel
theorem dX5_wayNext_13 : decode cX5_wayNext 13 = .ok (.if_icmp .ge 15, 3) := by decide +kernel
theorem dX5_wayNext_16 : decode cX5_wayNext 16 = .ok (.aload_n 0, 1) := by decide +kernel
theorem dX5_wayNext_17 : decode cX5_wayNext 17 = .ok (.getfield 11, 3) := by decide +kernel
theorem dX5_wayNext_20 : decode cX5_wayNext 20 = .ok (.aload_n 0, 1) := by decide +kernel
theorem dX5_wayNext_21 : decode cX5_wayNext 21 = .ok (.getfield 22, 3) := by decide +kernel
theorem dX5_wayNext_24 : decode cX5_wayNext 24 = .ok (.iaload, 1) := by decide +kernel
theorem dX5_wayNext_25 : decode cX5_wayNext 25 = .ok (.goto 4, 3) := by decide +kernel
theorem dX5_wayNext_28 : decode cX5_wayNext 28 = .ok (.iconst 2, 1) := by decide +kernel
theorem dX5_wayNext_29 : decode cX5_wayNext 29 = .ok (.ireturn, 1) := by decide +kernel
theorem dX5_goOn_0 : decode cX5_goOn 0 = .ok (.aload_n 0, 1) := by decide +kernel
theorem dX5_goOn_1 : decode cX5_goOn 1 = .ok (.aload_n 0, 1) := by decide +kernel
theorem dX5_goOn_2 : decode cX5_goOn 2 = .ok (.getfield 22, 3) := by decide +kernel
theorem dX5_goOn_5 : decode cX5_goOn 5 = .ok (.iconst 1, 1) := by decide +kernel
theorem dX5_goOn_6 : decode cX5_goOn 6 = .ok (.iadd, 1) := by decide +kernel
theorem dX5_goOn_7 : decode cX5_goOn 7 = .ok (.aload_n 0, 1) := by decide +kernel
theorem dX5_goOn_8 : decode cX5_goOn 8 = .ok (.getfield 18, 3) := by decide +kernel
theorem dX5_goOn_11 : decode cX5_goOn 11 = .ok (.if_icmp .ge 12, 3) := by decide +kernel
theorem dX5_goOn_14 : decode cX5_goOn 14 = .ok (.aload_n 0, 1) := by decide +kernel
theorem dX5_goOn_15 : decode cX5_goOn 15 = .ok (.getfield 22, 3) := by decide +kernel
theorem dX5_goOn_18 : decode cX5_goOn 18 = .ok (.iconst 1, 1) := by decide +kernel
theorem dX5_goOn_19 : decode cX5_goOn 19 = .ok (.iadd, 1) := by decide +kernel
theorem dX5_goOn_20 : decode cX5_goOn 20 = .ok (.goto 4, 3) := by decide +kernel
theorem dX5_goOn_23 : decode cX5_goOn 23 = .ok (.iconst 0, 1) := by decide +kernel
theorem dX5_goOn_24 : decode cX5_goOn 24 = .ok (.putfield 22, 3) := by decide +kernel
theorem dX5_goOn_27 : decode cX5_goOn 27 = .ok (.return_, 1) := by decide +kernel
theorem dX6_init_0 : decode cX6_init 0 = .ok (.aload_n 0, 1) := by decide +kernel
theorem dX6_init_1 : decode cX6_init 1 = .ok (.invokespecial 3, 3) := by decide +kernel
theorem dX6_init_4 : decode cX6_init 4 = .ok (.aload_n 0, 1) := by decide +kernel
theorem dX6_init_5 : decode cX6_init 5 = .ok (.bipush 40, 2) := by decide +kernel
theorem dX6_init_7 : decode cX6_init 7 = .ok (.newarray .int, 2) := by decide +kernel
theorem dX6_init_9 : decode cX6_init 9 = .ok (.putfield 11, 3) := by decide +kernel
theorem dX6_init_12 : decode cX6_init 12 = .ok (.aload_n 0, 1) := by decide +kernel
theorem dX6_init_13 : decode cX6_init 13 = .ok (.bipush 40, 2) := by decide +kernel
theorem dX6_init_15 : decode cX6_init 15 = .ok (.newarray .int, 2) := by decide +kernel
theorem dX6_init_17 : decode cX6_init 17 = .ok (.putfield 15, 3) := by decide +kernel
theorem dX6_init_20 : decode cX6_init 20 = .ok (.aload_n 0, 1) := by decide +kernel
theorem dX6_init_21 : decode cX6_init 21 = .ok (.bipush 40, 2) := by decide +kernel
theorem dX6_init_23 : decode cX6_init 23 = .ok (.newarray .boolean, 2) := by decide +kernel
theorem dX6_init_25 : decode cX6_init 25 = .ok (.putfield 18, 3) := by decide +kernel
theorem dX6_init_28 : decode cX6_init 28 = .ok (.aload_n 0, 1) := by decide +kernel
theorem dX6_init_29 : decode cX6_init 29 = .ok (.bipush 40, 2) := by decide +kernel
theorem dX6_init_31 : decode cX6_init 31 = .ok (.newarray .int, 2) := by decide +kernel
theorem dX6_init_33 : decode cX6_init 33 = .ok (.putfield 22, 3) := by decide +kernel
theorem dX6_init_36 : decode cX6_init 36 = .ok (.return_, 1) := by decide +kernel
theorem dX6_has_0 : decode cX6_has 0 = .ok (.iload_n 1, 1) := by decide +kernel
theorem dX6_has_1 : decode cX6_has 1 = .ok (.ifCond .lt 15, 3) := by decide +kernel
theorem dX6_has_4 : decode cX6_has 4 = .ok (.iload_n 1, 1) := by decide +kernel
theorem dX6_has_5 : decode cX6_has 5 = .ok (.aload_n 0, 1) := by decide +kernel
theorem dX6_has_6 : decode cX6_has 6 = .ok (.getfield 25, 3) := by decide +kernel
theorem dX6_has_9 : decode cX6_has 9 = .ok (.if_icmp .ge 7, 3) := by decide +kernel
theorem dX6_has_12 : decode cX6_has 12 = .ok (.iconst 1, 1) := by decide +kernel
theorem dX6_has_13 : decode cX6_has 13 = .ok (.goto 4, 3) := by decide +kernel
theorem dX6_has_16 : decode cX6_has 16 = .ok (.iconst 0, 1) := by decide +kernel
theorem dX6_has_17 : decode cX6_has 17 = .ok (.ireturn, 1) := by decide +kernel
theorem dX6_cut_0 : decode cX6_cut 0 = .ok (.aload_n 0, 1) := by decide +kernel
theorem dX6_cut_1 : decode cX6_cut 1 = .ok (.getfield 25, 3) := by decide +kernel
theorem dX6_cut_4 : decode cX6_cut 4 = .ok (.bipush 40, 2) := by decide +kernel
theorem dX6_cut_6 : decode cX6_cut 6 = .ok (.if_icmp .lt 5, 3) := by decide +kernel
theorem dX6_cut_9 : decode cX6_cut 9 = .ok (.iconst (-1), 1) := by decide +kernel
theorem dX6_cut_10 : decode cX6_cut 10 = .ok (.ireturn, 1) := by decide +kernel
theorem dX6_cut_11 : decode cX6_cut 11 = .ok (.aload_n 0, 1) := by decide +kernel
theorem dX6_cut_12 : decode cX6_cut 12 = .ok (.getfield 11, 3) := by decide +kernel
theorem dX6_cut_15 : decode cX6_cut 15 = .ok (.aload_n 0, 1) := by decide +kernel
theorem dX6_cut_16 : decode cX6_cut 16 = .ok (.getfield 25, 3) := by decide +kernel
theorem dX6_cut_19 : decode cX6_cut 19 = .ok (.iload_n 1, 1) := by decide +kernel
theorem dX6_cut_20 : decode cX6_cut 20 = .ok (.iastore, 1) := by decide +kernel
theorem dX6_cut_21 : decode cX6_cut 21 = .ok (.aload_n 0, 1) := by decide +kernel
theorem dX6_cut_22 : decode cX6_cut 22 = .ok (.getfield 15, 3) := by decide +kernel
theorem dX6_cut_25 : decode cX6_cut 25 = .ok (.aload_n 0, 1) := by decide +kernel
theorem dX6_cut_26 : decode cX6_cut 26 = .ok (.getfield 25, 3) := by decide +kernel
theorem dX6_cut_29 : decode cX6_cut 29 = .ok (.iconst 0, 1) := by decide +kernel
theorem dX6_cut_30 : decode cX6_cut 30 = .ok (.iastore, 1) := by decide +kernel
theorem dX6_cut_31 : decode cX6_cut 31 = .ok (.aload_n 0, 1) := by decide +kernel
theorem dX6_cut_32 : decode cX6_cut 32 = .ok (.getfield 18, 3) := by decide +kernel
theorem dX6_cut_35 : decode cX6_cut 35 = .ok (.aload_n 0, 1) := by decide +kernel
theorem dX6_cut_36 : decode cX6_cut 36 = .ok (.getfield 25, 3) := by decide +kernel
theorem dX6_cut_39 : decode cX6_cut 39 = .ok (.iconst 0, 1) := by decide +kernel
theorem dX6_cut_40 : decode cX6_cut 40 = .ok (.bastore, 1) := by decide +kernel
theorem dX6_cut_41 : decode cX6_cut 41 = .ok (.aload_n 0, 1) := by decide +kernel
theorem dX6_cut_42 : decode cX6_cut 42 = .ok (.getfield 22, 3) := by decide +kernel
theorem dX6_cut_45 : decode cX6_cut 45 = .ok (.aload_n 0, 1) := by decide +kernel
theorem dX6_cut_46 : decode cX6_cut 46 = .ok (.getfield 25, 3) := by decide +kernel
theorem dX6_cut_49 : decode cX6_cut 49 = .ok (.iconst (-1), 1) := by decide +kernel
theorem dX6_cut_50 : decode cX6_cut 50 = .ok (.iastore, 1) := by decide +kernel
theorem dX6_cut_51 : decode cX6_cut 51 = .ok (.aload_n 0, 1) := by decide +kernel
theorem dX6_cut_52 : decode cX6_cut 52 = .ok (.dup, 1) := by decide +kernel
theorem dX6_cut_53 : decode cX6_cut 53 = .ok (.getfield 25, 3) := by decide +kernel
theorem dX6_cut_56 : decode cX6_cut 56 = .ok (.iconst 1, 1) := by decide +kernel
theorem dX6_cut_57 : decode cX6_cut 57 = .ok (.iadd, 1) := by decide +kernel
theorem dX6_cut_58 : decode cX6_cut 58 = .ok (.putfield 25, 3) := by decide +kernel
theorem dX6_cut_61 : decode cX6_cut 61 = .ok (.aload_n 0, 1) := by decide +kernel
theorem dX6_cut_62 : decode cX6_cut 62 = .ok (.getfield 25, 3) := by decide +kernel
theorem dX6_cut_65 : decode cX6_cut 65 = .ok (.iconst 1, 1) := by decide +kernel
theorem dX6_cut_66 : decode cX6_cut 66 = .ok (.isub, 1) := by decide +kernel
theorem dX6_cut_67 : decode cX6_cut 67 = .ok (.ireturn, 1) := by decide +kernel
theorem dX6_wearOut_0 : decode cX6_wearOut 0 = .ok (.aload_n 0, 1) := by decide +kernel
theorem dX6_wearOut_1 : decode cX6_wearOut 1 = .ok (.iload_n 1, 1) := by decide +kernel
theorem dX6_wearOut_2 : decode cX6_wearOut 2 = .ok (.invokevirtual 29, 3) := by decide +kernel
theorem dX6_wearOut_5 : decode cX6_wearOut 5 = .ok (.ifCond .ne 5, 3) := by decide +kernel
theorem dX6_wearOut_8 : decode cX6_wearOut 8 = .ok (.iconst 0, 1) := by decide +kernel
theorem dX6_wearOut_9 : decode cX6_wearOut 9 = .ok (.ireturn, 1) := by decide +kernel
theorem dX6_wearOut_10 : decode cX6_wearOut 10 = .ok (.aload_n 0, 1) := by decide +kernel
theorem dX6_wearOut_11 : decode cX6_wearOut 11 = .ok (.getfield 15, 3) := by decide +kernel
theorem dX6_wearOut_14 : decode cX6_wearOut 14 = .ok (.iload_n 1, 1) := by decide +kernel
theorem dX6_wearOut_15 : decode cX6_wearOut 15 = .ok (.dup2, 1) := by decide +kernel
theorem dX6_wearOut_16 : decode cX6_wearOut 16 = .ok (.iaload, 1) := by decide +kernel
theorem dX6_wearOut_17 : decode cX6_wearOut 17 = .ok (.iconst 1, 1) := by decide +kernel
theorem dX6_wearOut_18 : decode cX6_wearOut 18 = .ok (.iadd, 1) := by decide +kernel
theorem dX6_wearOut_19 : decode cX6_wearOut 19 = .ok (.iastore, 1) := by decide +kernel
theorem dX6_wearOut_20 : decode cX6_wearOut 20 = .ok (.aload_n 0, 1) := by decide +kernel
theorem dX6_wearOut_21 : decode cX6_wearOut 21 = .ok (.getfield 15, 3) := by decide +kernel
theorem dX6_wearOut_24 : decode cX6_wearOut 24 = .ok (.iload_n 1, 1) := by decide +kernel
theorem dX6_wearOut_25 : decode cX6_wearOut 25 = .ok (.iaload, 1) := by decide +kernel
theorem dX6_wearOut_26 : decode cX6_wearOut 26 = .ok (.iload_n 2, 1) := by decide +kernel
theorem dX6_wearOut_27 : decode cX6_wearOut 27 = .ok (.if_icmp .lt 10, 3) := by decide +kernel
theorem dX6_wearOut_30 : decode cX6_wearOut 30 = .ok (.aload_n 0, 1) := by decide +kernel
theorem dX6_wearOut_31 : decode cX6_wearOut 31 = .ok (.getfield 18, 3) := by decide +kernel
theorem dX6_wearOut_34 : decode cX6_wearOut 34 = .ok (.iload_n 1, 1) := by decide +kernel
theorem dX6_wearOut_35 : decode cX6_wearOut 35 = .ok (.iconst 1, 1) := by decide +kernel
theorem dX6_wearOut_36 : decode cX6_wearOut 36 = .ok (.bastore, 1) := by decide +kernel
theorem dX6_wearOut_37 : decode cX6_wearOut 37 = .ok (.aload_n 0, 1) := by decide +kernel
theorem dX6_wearOut_38 : decode cX6_wearOut 38 = .ok (.getfield 18, 3) := by decide +kernel
theorem dX6_wearOut_41 : decode cX6_wearOut 41 = .ok (.iload_n 1, 1) := by decide +kernel
theorem dX6_wearOut_42 : decode cX6_wearOut 42 = .ok (.baload, 1) := by decide +kernel
theorem dX6_wearOut_43 : decode cX6_wearOut 43 = .ok (.ireturn, 1) := by decide +kernel
theorem dX6_fitting_0 : decode cX6_fitting 0 = .ok (.lconst 0, 1) := by decide +kernel
theorem dX6_fitting_1 : decode cX6_fitting 1 = .ok (.lstore_n 3, 1) := by decide +kernel
theorem dX6_fitting_2 : decode cX6_fitting 2 = .ok (.iconst 0, 1) := by decide +kernel
theorem dX6_fitting_3 : decode cX6_fitting 3 = .ok (.istore 5, 2) := by decide +kernel
theorem dX6_fitting_5 : decode cX6_fitting 5 = .ok (.iload 5, 2) := by decide +kernel
theorem dX6_fitting_7 : decode cX6_fitting 7 = .ok (.aload_n 0, 1) := by decide +kernel
theorem dX6_fitting_8 : decode cX6_fitting 8 = .ok (.getfield 25, 3) := by decide +kernel
theorem dX6_fitting_11 : decode cX6_fitting 11 = .ok (.if_icmp .ge 50, 3) := by decide +kernel
theorem dX6_fitting_14 : decode cX6_fitting 14 = .ok (.aload_n 0, 1) := by decide +kernel
theorem dX6_fitting_15 : decode cX6_fitting 15 = .ok (.getfield 18, 3) := by decide +kernel
theorem dX6_fitting_18 : decode cX6_fitting 18 = .ok (.iload 5, 2) := by decide +kernel
theorem dX6_fitting_20 : decode cX6_fitting 20 = .ok (.baload, 1) := by decide +kernel
theorem dX6_fitting_21 : decode cX6_fitting 21 = .ok (.ifCond .ne 34, 3) := by decide +kernel
theorem dX6_fitting_24 : decode cX6_fitting 24 = .ok (.aload_n 0, 1) := by decide +kernel
theorem dX6_fitting_25 : decode cX6_fitting 25 = .ok (.getfield 11, 3) := by decide +kernel
theorem dX6_fitting_28 : decode cX6_fitting 28 = .ok (.iload 5, 2) := by decide +kernel
theorem dX6_fitting_30 : decode cX6_fitting 30 = .ok (.iaload, 1) := by decide +kernel
theorem dX6_fitting_31 : decode cX6_fitting 31 = .ok (.iload_n 1, 1) := by decide +kernel
theorem dX6_fitting_32 : decode cX6_fitting 32 = .ok (.if_icmp .lt 23, 3) := by decide +kernel
theorem dX6_fitting_35 : decode cX6_fitting 35 = .ok (.aload_n 0, 1) := by decide +kernel
theorem dX6_fitting_36 : decode cX6_fitting 36 = .ok (.getfield 11, 3) := by decide +kernel
theorem dX6_fitting_39 : decode cX6_fitting 39 = .ok (.iload 5, 2) := by decide +kernel
theorem dX6_fitting_41 : decode cX6_fitting 41 = .ok (.iaload, 1) := by decide +kernel
theorem dX6_fitting_42 : decode cX6_fitting 42 = .ok (.iload_n 1, 1) := by decide +kernel
theorem dX6_fitting_43 : decode cX6_fitting 43 = .ok (.iload_n 2, 1) := by decide +kernel
theorem dX6_fitting_44 : decode cX6_fitting 44 = .ok (.iadd, 1) := by decide +kernel
theorem dX6_fitting_45 : decode cX6_fitting 45 = .ok (.if_icmp .gt 10, 3) := by decide +kernel
theorem dX6_fitting_48 : decode cX6_fitting 48 = .ok (.lload_n 3, 1) := by decide +kernel
theorem dX6_fitting_49 : decode cX6_fitting 49 = .ok (.lconst 1, 1) := by decide +kernel
theorem dX6_fitting_50 : decode cX6_fitting 50 = .ok (.iload 5, 2) := by decide +kernel
theorem dX6_fitting_52 : decode cX6_fitting 52 = .ok (.lshl, 1) := by decide +kernel
theorem dX6_fitting_53 : decode cX6_fitting 53 = .ok (.lor, 1) := by decide +kernel
theorem dX6_fitting_54 : decode cX6_fitting 54 = .ok (.lstore_n 3, 1) := by decide +kernel
theorem dX6_fitting_55 : decode cX6_fitting 55 = .ok (.iinc 5 1, 3) := by decide +kernel
theorem dX6_fitting_58 : decode cX6_fitting 58 = .ok (.goto (-53), 3) := by decide +kernel
theorem dX6_fitting_61 : decode cX6_fitting 61 = .ok (.lload_n 3, 1) := by decide +kernel
theorem dX6_fitting_62 : decode cX6_fitting 62 = .ok (.lreturn, 1) := by decide +kernel
theorem dX7_init_0 : decode cX7_init 0 = .ok (.aload_n 0, 1) := by decide +kernel
theorem dX7_init_1 : decode cX7_init 1 = .ok (.invokespecial 1, 3) := by decide +kernel
theorem dX7_init_4 : decode cX7_init 4 = .ok (.aload_n 0, 1) := by decide +kernel
theorem dX7_init_5 : decode cX7_init 5 = .ok (.new 7, 3) := by decide +kernel
theorem dX7_init_8 : decode cX7_init 8 = .ok (.dup, 1) := by decide +kernel
theorem dX7_init_9 : decode cX7_init 9 = .ok (.invokespecial 9, 3) := by decide +kernel
theorem dX7_init_12 : decode cX7_init 12 = .ok (.putfield 10, 3) := by decide +kernel
theorem dX7_init_15 : decode cX7_init 15 = .ok (.aload_n 0, 1) := by decide +kernel
theorem dX7_init_16 : decode cX7_init 16 = .ok (.new 16, 3) := by decide +kernel
theorem dX7_init_19 : decode cX7_init 19 = .ok (.dup, 1) := by decide +kernel
theorem dX7_init_20 : decode cX7_init 20 = .ok (.invokespecial 18, 3) := by decide +kernel
theorem dX7_init_23 : decode cX7_init 23 = .ok (.putfield 19, 3) := by decide +kernel
theorem dX7_init_26 : decode cX7_init 26 = .ok (.aload_n 0, 1) := by decide +kernel
theorem dX7_init_27 : decode cX7_init 27 = .ok (.new 23, 3) := by decide +kernel
theorem dX7_init_30 : decode cX7_init 30 = .ok (.dup, 1) := by decide +kernel
theorem dX7_init_31 : decode cX7_init 31 = .ok (.invokespecial 25, 3) := by decide +kernel
theorem dX7_init_34 : decode cX7_init 34 = .ok (.putfield 26, 3) := by decide +kernel
theorem dX7_init_37 : decode cX7_init 37 = .ok (.aload_n 0, 1) := by decide +kernel
theorem dX7_init_38 : decode cX7_init 38 = .ok (.new 30, 3) := by decide +kernel
theorem dX7_init_41 : decode cX7_init 41 = .ok (.dup, 1) := by decide +kernel
theorem dX7_init_42 : decode cX7_init 42 = .ok (.invokespecial 32, 3) := by decide +kernel
theorem dX7_init_45 : decode cX7_init 45 = .ok (.putfield 33, 3) := by decide +kernel
theorem dX7_init_48 : decode cX7_init 48 = .ok (.aload_n 0, 1) := by decide +kernel
theorem dX7_init_49 : decode cX7_init 49 = .ok (.new 37, 3) := by decide +kernel
theorem dX7_init_52 : decode cX7_init 52 = .ok (.dup, 1) := by decide +kernel
theorem dX7_init_53 : decode cX7_init 53 = .ok (.invokespecial 39, 3) := by decide +kernel
theorem dX7_init_56 : decode cX7_init 56 = .ok (.putfield 40, 3) := by decide +kernel
theorem dX7_init_59 : decode cX7_init 59 = .ok (.aload_n 0, 1) := by decide +kernel
theorem dX7_init_60 : decode cX7_init 60 = .ok (.new 44, 3) := by decide +kernel
theorem dX7_init_63 : decode cX7_init 63 = .ok (.dup, 1) := by decide +kernel
theorem dX7_init_64 : decode cX7_init 64 = .ok (.invokespecial 46, 3) := by decide +kernel
theorem dX7_init_67 : decode cX7_init 67 = .ok (.putfield 47, 3) := by decide +kernel
theorem dX7_init_70 : decode cX7_init 70 = .ok (.aload_n 0, 1) := by decide +kernel
theorem dX7_init_71 : decode cX7_init 71 = .ok (.new 51, 3) := by decide +kernel
theorem dX7_init_74 : decode cX7_init 74 = .ok (.dup, 1) := by decide +kernel
theorem dX7_init_75 : decode cX7_init 75 = .ok (.invokespecial 53, 3) := by decide +kernel
theorem dX7_init_78 : decode cX7_init 78 = .ok (.putfield 54, 3) := by decide +kernel
theorem dX7_init_81 : decode cX7_init 81 = .ok (.aload_n 0, 1) := by decide +kernel
theorem dX7_init_82 : decode cX7_init 82 = .ok (.iconst 0, 1) := by decide +kernel
theorem dX7_init_83 : decode cX7_init 83 = .ok (.putfield 58, 3) := by decide +kernel
theorem dX7_init_86 : decode cX7_init 86 = .ok (.return_, 1) := by decide +kernel
theorem dX7_feed_0 : decode cX7_feed 0 = .ok (.aload_n 0, 1) := by decide +kernel
theorem dX7_feed_1 : decode cX7_feed 1 = .ok (.getfield 10, 3) := by decide +kernel
theorem dX7_feed_4 : decode cX7_feed 4 = .ok (.getfield 62, 3) := by decide +kernel
theorem dX7_feed_7 : decode cX7_feed 7 = .ok (.bipush 20, 2) := by decide +kernel
theorem dX7_feed_9 : decode cX7_feed 9 = .ok (.iadd, 1) := by decide +kernel
theorem dX7_feed_10 : decode cX7_feed 10 = .ok (.sipush 300, 3) := by decide +kernel
theorem dX7_feed_13 : decode cX7_feed 13 = .ok (.if_icmp .le 5, 3) := by decide +kernel
theorem dX7_feed_16 : decode cX7_feed 16 = .ok (.iconst (-1), 1) := by decide +kernel
theorem dX7_feed_17 : decode cX7_feed 17 = .ok (.ireturn, 1) := by decide +kernel
theorem dX7_feed_18 : decode cX7_feed 18 = .ok (.aload_n 0, 1) := by decide +kernel
theorem dX7_feed_19 : decode cX7_feed 19 = .ok (.getfield 10, 3) := by decide +kernel
theorem dX7_feed_22 : decode cX7_feed 22 = .ok (.iload_n 1, 1) := by decide +kernel
theorem dX7_feed_23 : decode cX7_feed 23 = .ok (.invokevirtual 65, 3) := by decide +kernel
theorem dX7_feed_26 : decode cX7_feed 26 = .ok (.aload_n 0, 1) := by decide +kernel
theorem dX7_feed_27 : decode cX7_feed 27 = .ok (.getfield 10, 3) := by decide +kernel
theorem dX7_feed_30 : decode cX7_feed 30 = .ok (.iload_n 2, 1) := by decide +kernel
theorem dX7_feed_31 : decode cX7_feed 31 = .ok (.invokevirtual 65, 3) := by decide +kernel
theorem dX7_feed_34 : decode cX7_feed 34 = .ok (.aload_n 0, 1) := by decide +kernel
theorem dX7_feed_35 : decode cX7_feed 35 = .ok (.getfield 10, 3) := by decide +kernel
theorem dX7_feed_38 : decode cX7_feed 38 = .ok (.iload_n 3, 1) := by decide +kernel
theorem dX7_feed_39 : decode cX7_feed 39 = .ok (.invokevirtual 65, 3) := by decide +kernel
theorem dX7_feed_42 : decode cX7_feed 42 = .ok (.aload_n 0, 1) := by decide +kernel
theorem dX7_feed_43 : decode cX7_feed 43 = .ok (.getfield 10, 3) := by decide +kernel
theorem dX7_feed_46 : decode cX7_feed 46 = .ok (.iload 4, 2) := by decide +kernel
theorem dX7_feed_48 : decode cX7_feed 48 = .ok (.invokevirtual 65, 3) := by decide +kernel
theorem dX7_feed_51 : decode cX7_feed 51 = .ok (.aload_n 0, 1) := by decide +kernel
theorem dX7_feed_52 : decode cX7_feed 52 = .ok (.getfield 10, 3) := by decide +kernel
theorem dX7_feed_55 : decode cX7_feed 55 = .ok (.iload 5, 2) := by decide +kernel
theorem dX7_feed_57 : decode cX7_feed 57 = .ok (.invokevirtual 65, 3) := by decide +kernel
theorem dX7_feed_60 : decode cX7_feed 60 = .ok (.aload_n 0, 1) := by decide +kernel
theorem dX7_feed_61 : decode cX7_feed 61 = .ok (.getfield 10, 3) := by decide +kernel
theorem dX7_feed_64 : decode cX7_feed 64 = .ok (.getfield 62, 3) := by decide +kernel
theorem dX7_feed_67 : decode cX7_feed 67 = .ok (.ireturn, 1) := by decide +kernel
theorem dX7_statutes_0 : decode cX7_statutes 0 = .ok (.iload_n 1, 1) := by decide +kernel
theorem dX7_statutes_1 : decode cX7_statutes 1 = .ok (.ifCond .lt 14, 3) := by decide +kernel
theorem dX7_statutes_4 : decode cX7_statutes 4 = .ok (.iload_n 1, 1) := by decide +kernel
theorem dX7_statutes_5 : decode cX7_statutes 5 = .ok (.aload_n 0, 1) := by decide +kernel
theorem dX7_statutes_6 : decode cX7_statutes 6 = .ok (.getfield 10, 3) := by decide +kernel
theorem dX7_statutes_9 : decode cX7_statutes 9 = .ok (.getfield 62, 3) := by decide +kernel
theorem dX7_statutes_12 : decode cX7_statutes 12 = .ok (.if_icmp .le 6, 3) := by decide +kernel
theorem dX7_statutes_15 : decode cX7_statutes 15 = .ok (.bipush (-2), 2) := by decide +kernel
theorem dX7_statutes_17 : decode cX7_statutes 17 = .ok (.ireturn, 1) := by decide +kernel
theorem dX7_statutes_18 : decode cX7_statutes 18 = .ok (.aload_n 0, 1) := by decide +kernel
theorem dX7_statutes_19 : decode cX7_statutes 19 = .ok (.getfield 10, 3) := by decide +kernel
theorem dX7_statutes_22 : decode cX7_statutes 22 = .ok (.iload_n 1, 1) := by decide +kernel
theorem dX7_statutes_23 : decode cX7_statutes 23 = .ok (.invokevirtual 69, 3) := by decide +kernel
theorem dX7_statutes_26 : decode cX7_statutes 26 = .ok (.istore_n 2, 1) := by decide +kernel
theorem dX7_statutes_27 : decode cX7_statutes 27 = .ok (.iload_n 2, 1) := by decide +kernel
theorem dX7_statutes_28 : decode cX7_statutes 28 = .ok (.iconst (-1), 1) := by decide +kernel
theorem dX7_statutes_29 : decode cX7_statutes 29 = .ok (.if_icmp .eq 17, 3) := by decide +kernel
theorem dX7_statutes_32 : decode cX7_statutes 32 = .ok (.aload_n 0, 1) := by decide +kernel
theorem dX7_statutes_33 : decode cX7_statutes 33 = .ok (.getfield 19, 3) := by decide +kernel
theorem dX7_statutes_36 : decode cX7_statutes 36 = .ok (.aload_n 0, 1) := by decide +kernel
theorem dX7_statutes_37 : decode cX7_statutes 37 = .ok (.getfield 10, 3) := by decide +kernel
theorem dX7_statutes_40 : decode cX7_statutes 40 = .ok (.getfield 73, 3) := by decide +kernel
theorem dX7_statutes_43 : decode cX7_statutes 43 = .ok (.invokevirtual 76, 3) := by decide +kernel
theorem dX7_statutes_46 : decode cX7_statutes 46 = .ok (.iload_n 2, 1) := by decide +kernel
theorem dX7_statutes_47 : decode cX7_statutes 47 = .ok (.ireturn, 1) := by decide +kernel
theorem dX7_fault_0 : decode cX7_fault 0 = .ok (.iload_n 1, 1) := by decide +kernel
theorem dX7_fault_1 : decode cX7_fault 1 = .ok (.lookupswitch 43 #[(0, 27), (1, 35)], 27) := by decide +kernel
theorem dX7_fault_28 : decode cX7_fault 28 = .ok (.aload_n 0, 1) := by decide +kernel
theorem dX7_fault_29 : decode cX7_fault 29 = .ok (.getfield 10, 3) := by decide +kernel
theorem dX7_fault_32 : decode cX7_fault 32 = .ok (.getfield 80, 3) := by decide +kernel
theorem dX7_fault_35 : decode cX7_fault 35 = .ok (.ireturn, 1) := by decide +kernel
theorem dX7_fault_36 : decode cX7_fault 36 = .ok (.aload_n 0, 1) := by decide +kernel
theorem dX7_fault_37 : decode cX7_fault 37 = .ok (.getfield 10, 3) := by decide +kernel
theorem dX7_fault_40 : decode cX7_fault 40 = .ok (.getfield 83, 3) := by decide +kernel
theorem dX7_fault_43 : decode cX7_fault 43 = .ok (.ireturn, 1) := by decide +kernel
theorem dX7_fault_44 : decode cX7_fault 44 = .ok (.iconst (-1), 1) := by decide +kernel
theorem dX7_fault_45 : decode cX7_fault 45 = .ok (.ireturn, 1) := by decide +kernel
theorem dX7_giver_0 : decode cX7_giver 0 = .ok (.aload_n 0, 1) := by decide +kernel
theorem dX7_giver_1 : decode cX7_giver 1 = .ok (.getfield 26, 3) := by decide +kernel
theorem dX7_giver_4 : decode cX7_giver 4 = .ok (.invokevirtual 86, 3) := by decide +kernel
theorem dX7_giver_7 : decode cX7_giver 7 = .ok (.ireturn, 1) := by decide +kernel
theorem dX7_gift_0 : decode cX7_gift 0 = .ok (.aload_n 0, 1) := by decide +kernel
theorem dX7_gift_1 : decode cX7_gift 1 = .ok (.getfield 26, 3) := by decide +kernel
theorem dX7_gift_4 : decode cX7_gift 4 = .ok (.iload_n 1, 1) := by decide +kernel
theorem dX7_gift_5 : decode cX7_gift 5 = .ok (.invokevirtual 90, 3) := by decide +kernel
theorem dX7_gift_8 : decode cX7_gift 8 = .ok (.ifCond .eq 8, 3) := by decide +kernel
theorem dX7_gift_11 : decode cX7_gift 11 = .ok (.iload_n 2, 1) := by decide +kernel
theorem dX7_gift_12 : decode cX7_gift 12 = .ok (.iconst 1, 1) := by decide +kernel
theorem dX7_gift_13 : decode cX7_gift 13 = .ok (.if_icmp .ge 5, 3) := by decide +kernel
theorem dX7_gift_16 : decode cX7_gift 16 = .ok (.iconst (-1), 1) := by decide +kernel
theorem dX7_gift_17 : decode cX7_gift 17 = .ok (.ireturn, 1) := by decide +kernel
theorem dX7_gift_18 : decode cX7_gift 18 = .ok (.aload_n 0, 1) := by decide +kernel
theorem dX7_gift_19 : decode cX7_gift 19 = .ok (.getfield 26, 3) := by decide +kernel
theorem dX7_gift_22 : decode cX7_gift 22 = .ok (.iload_n 1, 1) := by decide +kernel
theorem dX7_gift_23 : decode cX7_gift 23 = .ok (.iload_n 2, 1) := by decide +kernel
theorem dX7_gift_24 : decode cX7_gift 24 = .ok (.invokevirtual 94, 3) := by decide +kernel
theorem dX7_gift_27 : decode cX7_gift 27 = .ok (.ireturn, 1) := by decide +kernel
theorem dX7_support_0 : decode cX7_support 0 = .ok (.aload_n 0, 1) := by decide +kernel
theorem dX7_support_1 : decode cX7_support 1 = .ok (.getfield 26, 3) := by decide +kernel
theorem dX7_support_4 : decode cX7_support 4 = .ok (.iload_n 1, 1) := by decide +kernel
theorem dX7_support_5 : decode cX7_support 5 = .ok (.invokevirtual 90, 3) := by decide +kernel
theorem dX7_support_8 : decode cX7_support 8 = .ok (.ifCond .eq 19, 3) := by decide +kernel
theorem dX7_support_11 : decode cX7_support 11 = .ok (.iload_n 2, 1) := by decide +kernel
theorem dX7_support_12 : decode cX7_support 12 = .ok (.iconst (-1), 1) := by decide +kernel
theorem dX7_support_13 : decode cX7_support 13 = .ok (.if_icmp .eq 16, 3) := by decide +kernel
theorem dX7_support_16 : decode cX7_support 16 = .ok (.aload_n 0, 1) := by decide +kernel
theorem dX7_support_17 : decode cX7_support 17 = .ok (.getfield 33, 3) := by decide +kernel
theorem dX7_support_20 : decode cX7_support 20 = .ok (.iload_n 2, 1) := by decide +kernel
theorem dX7_support_21 : decode cX7_support 21 = .ok (.invokevirtual 98, 3) := by decide +kernel
theorem dX7_support_24 : decode cX7_support 24 = .ok (.ifCond .ne 5, 3) := by decide +kernel
theorem dX7_support_27 : decode cX7_support 27 = .ok (.iconst 0, 1) := by decide +kernel
theorem dX7_support_28 : decode cX7_support 28 = .ok (.ireturn, 1) := by decide +kernel
theorem dX7_support_29 : decode cX7_support 29 = .ok (.aload_n 0, 1) := by decide +kernel
theorem dX7_support_30 : decode cX7_support 30 = .ok (.getfield 26, 3) := by decide +kernel
theorem dX7_support_33 : decode cX7_support 33 = .ok (.getfield 99, 3) := by decide +kernel
theorem dX7_support_36 : decode cX7_support 36 = .ok (.iload_n 1, 1) := by decide +kernel
theorem dX7_support_37 : decode cX7_support 37 = .ok (.iload_n 2, 1) := by decide +kernel
theorem dX7_support_38 : decode cX7_support 38 = .ok (.iastore, 1) := by decide +kernel
theorem dX7_support_39 : decode cX7_support 39 = .ok (.iconst 1, 1) := by decide +kernel
theorem dX7_support_40 : decode cX7_support 40 = .ok (.ireturn, 1) := by decide +kernel
theorem dX7_child_0 : decode cX7_child 0 = .ok (.aload_n 0, 1) := by decide +kernel
theorem dX7_child_1 : decode cX7_child 1 = .ok (.getfield 33, 3) := by decide +kernel
theorem dX7_child_4 : decode cX7_child 4 = .ok (.iload_n 1, 1) := by decide +kernel
theorem dX7_child_5 : decode cX7_child 5 = .ok (.iload_n 2, 1) := by decide +kernel
theorem dX7_child_6 : decode cX7_child 6 = .ok (.iload_n 3, 1) := by decide +kernel
theorem dX7_child_7 : decode cX7_child 7 = .ok (.iload 4, 2) := by decide +kernel
theorem dX7_child_9 : decode cX7_child 9 = .ok (.invokevirtual 103, 3) := by decide +kernel
theorem dX7_child_12 : decode cX7_child 12 = .ok (.ireturn, 1) := by decide +kernel
theorem dX7_fill_0 : decode cX7_fill 0 = .ok (.aload_n 0, 1) := by decide +kernel
theorem dX7_fill_1 : decode cX7_fill 1 = .ok (.getfield 33, 3) := by decide +kernel
theorem dX7_fill_4 : decode cX7_fill 4 = .ok (.invokevirtual 106, 3) := by decide +kernel
theorem dX7_fill_7 : decode cX7_fill 7 = .ok (.aload_n 0, 1) := by decide +kernel
theorem dX7_fill_8 : decode cX7_fill 8 = .ok (.getfield 19, 3) := by decide +kernel
theorem dX7_fill_11 : decode cX7_fill 11 = .ok (.getfield 109, 3) := by decide +kernel
theorem dX7_fill_14 : decode cX7_fill 14 = .ok (.if_icmp .lt 5, 3) := by decide +kernel
theorem dX7_fill_17 : decode cX7_fill 17 = .ok (.iconst (-1), 1) := by decide +kernel
theorem dX7_fill_18 : decode cX7_fill 18 = .ok (.ireturn, 1) := by decide +kernel
theorem dX7_fill_19 : decode cX7_fill 19 = .ok (.aload_n 0, 1) := by decide +kernel
theorem dX7_fill_20 : decode cX7_fill 20 = .ok (.aload_n 0, 1) := by decide +kernel
theorem dX7_fill_21 : decode cX7_fill 21 = .ok (.getfield 19, 3) := by decide +kernel
theorem dX7_fill_24 : decode cX7_fill 24 = .ok (.invokevirtual 112, 3) := by decide +kernel
theorem dX7_fill_27 : decode cX7_fill 27 = .ok (.invokevirtual 115, 3) := by decide +kernel
theorem dX7_fill_30 : decode cX7_fill 30 = .ok (.istore_n 1, 1) := by decide +kernel
theorem dX7_fill_31 : decode cX7_fill 31 = .ok (.aload_n 0, 1) := by decide +kernel
theorem dX7_fill_32 : decode cX7_fill 32 = .ok (.getfield 33, 3) := by decide +kernel
theorem dX7_fill_35 : decode cX7_fill 35 = .ok (.iload_n 1, 1) := by decide +kernel
theorem dX7_fill_36 : decode cX7_fill 36 = .ok (.invokevirtual 98, 3) := by decide +kernel
theorem dX7_fill_39 : decode cX7_fill 39 = .ok (.ifCond .eq 20, 3) := by decide +kernel
theorem dX7_fill_42 : decode cX7_fill 42 = .ok (.aload_n 0, 1) := by decide +kernel
theorem dX7_fill_43 : decode cX7_fill 43 = .ok (.getfield 33, 3) := by decide +kernel
theorem dX7_fill_46 : decode cX7_fill 46 = .ok (.getfield 118, 3) := by decide +kernel
theorem dX7_fill_49 : decode cX7_fill 49 = .ok (.iload_n 1, 1) := by decide +kernel
theorem dX7_fill_50 : decode cX7_fill 50 = .ok (.iconst 1, 1) := by decide +kernel
theorem dX7_fill_51 : decode cX7_fill 51 = .ok (.iastore, 1) := by decide +kernel
theorem dX7_fill_52 : decode cX7_fill 52 = .ok (.aload_n 0, 1) := by decide +kernel
theorem dX7_fill_53 : decode cX7_fill 53 = .ok (.getfield 19, 3) := by decide +kernel
theorem dX7_fill_56 : decode cX7_fill 56 = .ok (.invokevirtual 121, 3) := by decide +kernel
theorem dX7_fill_59 : decode cX7_fill 59 = .ok (.iload_n 1, 1) := by decide +kernel
theorem dX7_fill_60 : decode cX7_fill 60 = .ok (.ireturn, 1) := by decide +kernel
theorem dX7_chosenBy_0 : decode cX7_chosenBy 0 = .ok (.iload_n 1, 1) := by decide +kernel
theorem dX7_chosenBy_1 : decode cX7_chosenBy 1 = .ok (.lookupswitch 37 #[(0, 27), (1, 32)], 27) := by decide +kernel
theorem dX7_chosenBy_28 : decode cX7_chosenBy 28 = .ok (.aload_n 0, 1) := by decide +kernel
theorem dX7_chosenBy_29 : decode cX7_chosenBy 29 = .ok (.invokevirtual 124, 3) := by decide +kernel
theorem dX7_chosenBy_32 : decode cX7_chosenBy 32 = .ok (.ireturn, 1) := by decide +kernel
theorem dX7_chosenBy_33 : decode cX7_chosenBy 33 = .ok (.aload_n 0, 1) := by decide +kernel
theorem dX7_chosenBy_34 : decode cX7_chosenBy 34 = .ok (.invokevirtual 127, 3) := by decide +kernel
theorem dX7_chosenBy_37 : decode cX7_chosenBy 37 = .ok (.ireturn, 1) := by decide +kernel
theorem dX7_chosenBy_38 : decode cX7_chosenBy 38 = .ok (.aload_n 0, 1) := by decide +kernel
theorem dX7_chosenBy_39 : decode cX7_chosenBy 39 = .ok (.invokevirtual 130, 3) := by decide +kernel
theorem dX7_chosenBy_42 : decode cX7_chosenBy 42 = .ok (.ireturn, 1) := by decide +kernel
theorem dX7_chosenByTurn_0 : decode cX7_chosenByTurn 0 = .ok (.aload_n 0, 1) := by decide +kernel
theorem dX7_chosenByTurn_1 : decode cX7_chosenByTurn 1 = .ok (.getfield 26, 3) := by decide +kernel
theorem dX7_chosenByTurn_4 : decode cX7_chosenByTurn 4 = .ok (.getfield 133, 3) := by decide +kernel
theorem dX7_chosenByTurn_7 : decode cX7_chosenByTurn 7 = .ok (.istore_n 1, 1) := by decide +kernel
theorem dX7_chosenByTurn_8 : decode cX7_chosenByTurn 8 = .ok (.iconst 0, 1) := by decide +kernel
theorem dX7_chosenByTurn_9 : decode cX7_chosenByTurn 9 = .ok (.istore_n 2, 1) := by decide +kernel
theorem dX7_chosenByTurn_10 : decode cX7_chosenByTurn 10 = .ok (.iload_n 2, 1) := by decide +kernel
theorem dX7_chosenByTurn_11 : decode cX7_chosenByTurn 11 = .ok (.aload_n 0, 1) := by decide +kernel
theorem dX7_chosenByTurn_12 : decode cX7_chosenByTurn 12 = .ok (.getfield 26, 3) := by decide +kernel
theorem dX7_chosenByTurn_15 : decode cX7_chosenByTurn 15 = .ok (.getfield 136, 3) := by decide +kernel
theorem dX7_chosenByTurn_18 : decode cX7_chosenByTurn 18 = .ok (.if_icmp .ge 62, 3) := by decide +kernel
theorem dX7_chosenByTurn_21 : decode cX7_chosenByTurn 21 = .ok (.aload_n 0, 1) := by decide +kernel
theorem dX7_chosenByTurn_22 : decode cX7_chosenByTurn 22 = .ok (.getfield 26, 3) := by decide +kernel
theorem dX7_chosenByTurn_25 : decode cX7_chosenByTurn 25 = .ok (.iload_n 1, 1) := by decide +kernel
theorem dX7_chosenByTurn_26 : decode cX7_chosenByTurn 26 = .ok (.invokevirtual 139, 3) := by decide +kernel
theorem dX7_chosenByTurn_29 : decode cX7_chosenByTurn 29 = .ok (.istore_n 3, 1) := by decide +kernel
theorem dX7_chosenByTurn_30 : decode cX7_chosenByTurn 30 = .ok (.iload_n 1, 1) := by decide +kernel
theorem dX7_chosenByTurn_31 : decode cX7_chosenByTurn 31 = .ok (.iconst 1, 1) := by decide +kernel
theorem dX7_chosenByTurn_32 : decode cX7_chosenByTurn 32 = .ok (.iadd, 1) := by decide +kernel
theorem dX7_chosenByTurn_33 : decode cX7_chosenByTurn 33 = .ok (.aload_n 0, 1) := by decide +kernel
theorem dX7_chosenByTurn_34 : decode cX7_chosenByTurn 34 = .ok (.getfield 26, 3) := by decide +kernel
theorem dX7_chosenByTurn_37 : decode cX7_chosenByTurn 37 = .ok (.getfield 136, 3) := by decide +kernel
theorem dX7_chosenByTurn_40 : decode cX7_chosenByTurn 40 = .ok (.if_icmp .ge 9, 3) := by decide +kernel
theorem dX7_chosenByTurn_43 : decode cX7_chosenByTurn 43 = .ok (.iload_n 1, 1) := by decide +kernel
theorem dX7_chosenByTurn_44 : decode cX7_chosenByTurn 44 = .ok (.iconst 1, 1) := by decide +kernel
theorem dX7_chosenByTurn_45 : decode cX7_chosenByTurn 45 = .ok (.iadd, 1) := by decide +kernel
theorem dX7_chosenByTurn_46 : decode cX7_chosenByTurn 46 = .ok (.goto 4, 3) := by decide +kernel
theorem dX7_chosenByTurn_49 : decode cX7_chosenByTurn 49 = .ok (.iconst 0, 1) := by decide +kernel
theorem dX7_chosenByTurn_50 : decode cX7_chosenByTurn 50 = .ok (.istore 4, 2) := by decide +kernel
theorem dX7_chosenByTurn_52 : decode cX7_chosenByTurn 52 = .ok (.aload_n 0, 1) := by decide +kernel
theorem dX7_chosenByTurn_53 : decode cX7_chosenByTurn 53 = .ok (.iload_n 3, 1) := by decide +kernel
theorem dX7_chosenByTurn_54 : decode cX7_chosenByTurn 54 = .ok (.invokevirtual 142, 3) := by decide +kernel
theorem dX7_chosenByTurn_57 : decode cX7_chosenByTurn 57 = .ok (.ifCond .eq 14, 3) := by decide +kernel
theorem dX7_chosenByTurn_60 : decode cX7_chosenByTurn 60 = .ok (.aload_n 0, 1) := by decide +kernel
theorem dX7_chosenByTurn_61 : decode cX7_chosenByTurn 61 = .ok (.getfield 26, 3) := by decide +kernel
theorem dX7_chosenByTurn_64 : decode cX7_chosenByTurn 64 = .ok (.iload 4, 2) := by decide +kernel
theorem dX7_chosenByTurn_66 : decode cX7_chosenByTurn 66 = .ok (.putfield 133, 3) := by decide +kernel
theorem dX7_chosenByTurn_69 : decode cX7_chosenByTurn 69 = .ok (.iload_n 3, 1) := by decide +kernel
theorem dX7_chosenByTurn_70 : decode cX7_chosenByTurn 70 = .ok (.ireturn, 1) := by decide +kernel
theorem dX7_chosenByTurn_71 : decode cX7_chosenByTurn 71 = .ok (.iload 4, 2) := by decide +kernel
theorem dX7_chosenByTurn_73 : decode cX7_chosenByTurn 73 = .ok (.istore_n 1, 1) := by decide +kernel
theorem dX7_chosenByTurn_74 : decode cX7_chosenByTurn 74 = .ok (.iinc 2 1, 3) := by decide +kernel
theorem dX7_chosenByTurn_77 : decode cX7_chosenByTurn 77 = .ok (.goto (-67), 3) := by decide +kernel
theorem dX7_chosenByTurn_80 : decode cX7_chosenByTurn 80 = .ok (.iconst (-1), 1) := by decide +kernel
theorem dX7_chosenByTurn_81 : decode cX7_chosenByTurn 81 = .ok (.ireturn, 1) := by decide +kernel
theorem dX7_chosenByVote_0 : decode cX7_chosenByVote 0 = .ok (.iconst (-1), 1) := by decide +kernel
theorem dX7_chosenByVote_1 : decode cX7_chosenByVote 1 = .ok (.istore_n 1, 1) := by decide +kernel
theorem dX7_chosenByVote_2 : decode cX7_chosenByVote 2 = .ok (.iconst 0, 1) := by decide +kernel
theorem dX7_chosenByVote_3 : decode cX7_chosenByVote 3 = .ok (.istore_n 2, 1) := by decide +kernel
theorem dX7_chosenByVote_4 : decode cX7_chosenByVote 4 = .ok (.iconst 0, 1) := by decide +kernel
theorem dX7_chosenByVote_5 : decode cX7_chosenByVote 5 = .ok (.istore_n 3, 1) := by decide +kernel
theorem dX7_chosenByVote_6 : decode cX7_chosenByVote 6 = .ok (.iload_n 3, 1) := by decide +kernel
theorem dX7_chosenByVote_7 : decode cX7_chosenByVote 7 = .ok (.aload_n 0, 1) := by decide +kernel
theorem dX7_chosenByVote_8 : decode cX7_chosenByVote 8 = .ok (.getfield 33, 3) := by decide +kernel
theorem dX7_chosenByVote_11 : decode cX7_chosenByVote 11 = .ok (.getfield 145, 3) := by decide +kernel
theorem dX7_chosenByVote_14 : decode cX7_chosenByVote 14 = .ok (.if_icmp .ge 92, 3) := by decide +kernel
theorem dX7_chosenByVote_17 : decode cX7_chosenByVote 17 = .ok (.aload_n 0, 1) := by decide +kernel
theorem dX7_chosenByVote_18 : decode cX7_chosenByVote 18 = .ok (.iload_n 3, 1) := by decide +kernel
theorem dX7_chosenByVote_19 : decode cX7_chosenByVote 19 = .ok (.invokevirtual 142, 3) := by decide +kernel
theorem dX7_chosenByVote_22 : decode cX7_chosenByVote 22 = .ok (.ifCond .ne 6, 3) := by decide +kernel
theorem dX7_chosenByVote_25 : decode cX7_chosenByVote 25 = .ok (.goto 75, 3) := by decide +kernel
theorem dX7_chosenByVote_28 : decode cX7_chosenByVote 28 = .ok (.aload_n 0, 1) := by decide +kernel
theorem dX7_chosenByVote_29 : decode cX7_chosenByVote 29 = .ok (.getfield 26, 3) := by decide +kernel
theorem dX7_chosenByVote_32 : decode cX7_chosenByVote 32 = .ok (.iload_n 3, 1) := by decide +kernel
theorem dX7_chosenByVote_33 : decode cX7_chosenByVote 33 = .ok (.aload_n 0, 1) := by decide +kernel
theorem dX7_chosenByVote_34 : decode cX7_chosenByVote 34 = .ok (.getfield 19, 3) := by decide +kernel
theorem dX7_chosenByVote_37 : decode cX7_chosenByVote 37 = .ok (.getfield 146, 3) := by decide +kernel
theorem dX7_chosenByVote_40 : decode cX7_chosenByVote 40 = .ok (.invokevirtual 149, 3) := by decide +kernel
theorem dX7_chosenByVote_43 : decode cX7_chosenByVote 43 = .ok (.istore 4, 2) := by decide +kernel
theorem dX7_chosenByVote_45 : decode cX7_chosenByVote 45 = .ok (.iload_n 1, 1) := by decide +kernel
theorem dX7_chosenByVote_46 : decode cX7_chosenByVote 46 = .ok (.iconst (-1), 1) := by decide +kernel
theorem dX7_chosenByVote_47 : decode cX7_chosenByVote 47 = .ok (.if_icmp .eq 34, 3) := by decide +kernel
theorem dX7_chosenByVote_50 : decode cX7_chosenByVote 50 = .ok (.iload 4, 2) := by decide +kernel
theorem dX7_chosenByVote_52 : decode cX7_chosenByVote 52 = .ok (.iload_n 2, 1) := by decide +kernel
theorem dX7_chosenByVote_53 : decode cX7_chosenByVote 53 = .ok (.if_icmp .ne 28, 3) := by decide +kernel
theorem dX7_chosenByVote_56 : decode cX7_chosenByVote 56 = .ok (.aload_n 0, 1) := by decide +kernel
theorem dX7_chosenByVote_57 : decode cX7_chosenByVote 57 = .ok (.getfield 33, 3) := by decide +kernel
theorem dX7_chosenByVote_60 : decode cX7_chosenByVote 60 = .ok (.getfield 152, 3) := by decide +kernel
theorem dX7_chosenByVote_63 : decode cX7_chosenByVote 63 = .ok (.iload_n 3, 1) := by decide +kernel
theorem dX7_chosenByVote_64 : decode cX7_chosenByVote 64 = .ok (.iaload, 1) := by decide +kernel
theorem dX7_chosenByVote_65 : decode cX7_chosenByVote 65 = .ok (.aload_n 0, 1) := by decide +kernel
theorem dX7_chosenByVote_66 : decode cX7_chosenByVote 66 = .ok (.getfield 33, 3) := by decide +kernel
theorem dX7_chosenByVote_69 : decode cX7_chosenByVote 69 = .ok (.getfield 152, 3) := by decide +kernel
theorem dX7_chosenByVote_72 : decode cX7_chosenByVote 72 = .ok (.iload_n 1, 1) := by decide +kernel
theorem dX7_chosenByVote_73 : decode cX7_chosenByVote 73 = .ok (.iaload, 1) := by decide +kernel
theorem dX7_chosenByVote_74 : decode cX7_chosenByVote 74 = .ok (.if_icmp .le 7, 3) := by decide +kernel
theorem dX7_chosenByVote_77 : decode cX7_chosenByVote 77 = .ok (.iconst 1, 1) := by decide +kernel
theorem dX7_chosenByVote_78 : decode cX7_chosenByVote 78 = .ok (.goto 4, 3) := by decide +kernel
theorem dX7_chosenByVote_81 : decode cX7_chosenByVote 81 = .ok (.iconst 0, 1) := by decide +kernel
theorem dX7_chosenByVote_82 : decode cX7_chosenByVote 82 = .ok (.istore 5, 2) := by decide +kernel
theorem dX7_chosenByVote_84 : decode cX7_chosenByVote 84 = .ok (.iload 4, 2) := by decide +kernel
theorem dX7_chosenByVote_86 : decode cX7_chosenByVote 86 = .ok (.iload_n 2, 1) := by decide +kernel
theorem dX7_chosenByVote_87 : decode cX7_chosenByVote 87 = .ok (.if_icmp .gt 8, 3) := by decide +kernel
theorem dX7_chosenByVote_90 : decode cX7_chosenByVote 90 = .ok (.iload 5, 2) := by decide +kernel
theorem dX7_chosenByVote_92 : decode cX7_chosenByVote 92 = .ok (.ifCond .eq 8, 3) := by decide +kernel
theorem dX7_chosenByVote_95 : decode cX7_chosenByVote 95 = .ok (.iload_n 3, 1) := by decide +kernel
theorem dX7_chosenByVote_96 : decode cX7_chosenByVote 96 = .ok (.istore_n 1, 1) := by decide +kernel
theorem dX7_chosenByVote_97 : decode cX7_chosenByVote 97 = .ok (.iload 4, 2) := by decide +kernel
theorem dX7_chosenByVote_99 : decode cX7_chosenByVote 99 = .ok (.istore_n 2, 1) := by decide +kernel
theorem dX7_chosenByVote_100 : decode cX7_chosenByVote 100 = .ok (.iinc 3 1, 3) := by decide +kernel
theorem dX7_chosenByVote_103 : decode cX7_chosenByVote 103 = .ok (.goto (-97), 3) := by decide +kernel
theorem dX7_chosenByVote_106 : decode cX7_chosenByVote 106 = .ok (.iload_n 1, 1) := by decide +kernel
theorem dX7_chosenByVote_107 : decode cX7_chosenByVote 107 = .ok (.ireturn, 1) := by decide +kernel
theorem dX7_chosenByNeed_0 : decode cX7_chosenByNeed 0 = .ok (.iconst (-1), 1) := by decide +kernel
theorem dX7_chosenByNeed_1 : decode cX7_chosenByNeed 1 = .ok (.istore_n 1, 1) := by decide +kernel
theorem dX7_chosenByNeed_2 : decode cX7_chosenByNeed 2 = .ok (.iconst 0, 1) := by decide +kernel
theorem dX7_chosenByNeed_3 : decode cX7_chosenByNeed 3 = .ok (.istore_n 2, 1) := by decide +kernel
theorem dX7_chosenByNeed_4 : decode cX7_chosenByNeed 4 = .ok (.iload_n 2, 1) := by decide +kernel
theorem dX7_chosenByNeed_5 : decode cX7_chosenByNeed 5 = .ok (.aload_n 0, 1) := by decide +kernel
theorem dX7_chosenByNeed_6 : decode cX7_chosenByNeed 6 = .ok (.getfield 33, 3) := by decide +kernel
theorem dX7_chosenByNeed_9 : decode cX7_chosenByNeed 9 = .ok (.getfield 145, 3) := by decide +kernel
theorem dX7_chosenByNeed_12 : decode cX7_chosenByNeed 12 = .ok (.if_icmp .ge 45, 3) := by decide +kernel
theorem dX7_chosenByNeed_15 : decode cX7_chosenByNeed 15 = .ok (.aload_n 0, 1) := by decide +kernel
theorem dX7_chosenByNeed_16 : decode cX7_chosenByNeed 16 = .ok (.iload_n 2, 1) := by decide +kernel
theorem dX7_chosenByNeed_17 : decode cX7_chosenByNeed 17 = .ok (.invokevirtual 142, 3) := by decide +kernel
theorem dX7_chosenByNeed_20 : decode cX7_chosenByNeed 20 = .ok (.ifCond .eq 31, 3) := by decide +kernel
theorem dX7_chosenByNeed_23 : decode cX7_chosenByNeed 23 = .ok (.iload_n 1, 1) := by decide +kernel
theorem dX7_chosenByNeed_24 : decode cX7_chosenByNeed 24 = .ok (.iconst (-1), 1) := by decide +kernel
theorem dX7_chosenByNeed_25 : decode cX7_chosenByNeed 25 = .ok (.if_icmp .eq 24, 3) := by decide +kernel
theorem dX7_chosenByNeed_28 : decode cX7_chosenByNeed 28 = .ok (.aload_n 0, 1) := by decide +kernel
theorem dX7_chosenByNeed_29 : decode cX7_chosenByNeed 29 = .ok (.getfield 33, 3) := by decide +kernel
theorem dX7_chosenByNeed_32 : decode cX7_chosenByNeed 32 = .ok (.getfield 152, 3) := by decide +kernel
theorem dX7_chosenByNeed_35 : decode cX7_chosenByNeed 35 = .ok (.iload_n 2, 1) := by decide +kernel
theorem dX7_chosenByNeed_36 : decode cX7_chosenByNeed 36 = .ok (.iaload, 1) := by decide +kernel
theorem dX7_chosenByNeed_37 : decode cX7_chosenByNeed 37 = .ok (.aload_n 0, 1) := by decide +kernel
theorem dX7_chosenByNeed_38 : decode cX7_chosenByNeed 38 = .ok (.getfield 33, 3) := by decide +kernel
theorem dX7_chosenByNeed_41 : decode cX7_chosenByNeed 41 = .ok (.getfield 152, 3) := by decide +kernel
theorem dX7_chosenByNeed_44 : decode cX7_chosenByNeed 44 = .ok (.iload_n 1, 1) := by decide +kernel
theorem dX7_chosenByNeed_45 : decode cX7_chosenByNeed 45 = .ok (.iaload, 1) := by decide +kernel
theorem dX7_chosenByNeed_46 : decode cX7_chosenByNeed 46 = .ok (.if_icmp .le 5, 3) := by decide +kernel
theorem dX7_chosenByNeed_49 : decode cX7_chosenByNeed 49 = .ok (.iload_n 2, 1) := by decide +kernel
theorem dX7_chosenByNeed_50 : decode cX7_chosenByNeed 50 = .ok (.istore_n 1, 1) := by decide +kernel
theorem dX7_chosenByNeed_51 : decode cX7_chosenByNeed 51 = .ok (.iinc 2 1, 3) := by decide +kernel
theorem dX7_chosenByNeed_54 : decode cX7_chosenByNeed 54 = .ok (.goto (-50), 3) := by decide +kernel
theorem dX7_chosenByNeed_57 : decode cX7_chosenByNeed 57 = .ok (.iload_n 1, 1) := by decide +kernel
theorem dX7_chosenByNeed_58 : decode cX7_chosenByNeed 58 = .ok (.ireturn, 1) := by decide +kernel
theorem dX7_mayCome_0 : decode cX7_mayCome 0 = .ok (.aload_n 0, 1) := by decide +kernel
theorem dX7_mayCome_1 : decode cX7_mayCome 1 = .ok (.getfield 33, 3) := by decide +kernel
theorem dX7_mayCome_4 : decode cX7_mayCome 4 = .ok (.iload_n 1, 1) := by decide +kernel
theorem dX7_mayCome_5 : decode cX7_mayCome 5 = .ok (.invokevirtual 98, 3) := by decide +kernel
theorem dX7_mayCome_8 : decode cX7_mayCome 8 = .ok (.ifCond .eq 57, 3) := by decide +kernel
theorem dX7_mayCome_11 : decode cX7_mayCome 11 = .ok (.aload_n 0, 1) := by decide +kernel
theorem dX7_mayCome_12 : decode cX7_mayCome 12 = .ok (.getfield 33, 3) := by decide +kernel
theorem dX7_mayCome_15 : decode cX7_mayCome 15 = .ok (.getfield 118, 3) := by decide +kernel
theorem dX7_mayCome_18 : decode cX7_mayCome 18 = .ok (.iload_n 1, 1) := by decide +kernel
theorem dX7_mayCome_19 : decode cX7_mayCome 19 = .ok (.iaload, 1) := by decide +kernel
theorem dX7_mayCome_20 : decode cX7_mayCome 20 = .ok (.ifCond .ne 45, 3) := by decide +kernel
theorem dX7_mayCome_23 : decode cX7_mayCome 23 = .ok (.aload_n 0, 1) := by decide +kernel
theorem dX7_mayCome_24 : decode cX7_mayCome 24 = .ok (.getfield 33, 3) := by decide +kernel
theorem dX7_mayCome_27 : decode cX7_mayCome 27 = .ok (.getfield 155, 3) := by decide +kernel
theorem dX7_mayCome_30 : decode cX7_mayCome 30 = .ok (.iload_n 1, 1) := by decide +kernel
theorem dX7_mayCome_31 : decode cX7_mayCome 31 = .ok (.iaload, 1) := by decide +kernel
theorem dX7_mayCome_32 : decode cX7_mayCome 32 = .ok (.aload_n 0, 1) := by decide +kernel
theorem dX7_mayCome_33 : decode cX7_mayCome 33 = .ok (.getfield 19, 3) := by decide +kernel
theorem dX7_mayCome_36 : decode cX7_mayCome 36 = .ok (.getfield 158, 3) := by decide +kernel
theorem dX7_mayCome_39 : decode cX7_mayCome 39 = .ok (.if_icmp .lt 26, 3) := by decide +kernel
theorem dX7_mayCome_42 : decode cX7_mayCome 42 = .ok (.aload_n 0, 1) := by decide +kernel
theorem dX7_mayCome_43 : decode cX7_mayCome 43 = .ok (.getfield 33, 3) := by decide +kernel
theorem dX7_mayCome_46 : decode cX7_mayCome 46 = .ok (.getfield 155, 3) := by decide +kernel
theorem dX7_mayCome_49 : decode cX7_mayCome 49 = .ok (.iload_n 1, 1) := by decide +kernel
theorem dX7_mayCome_50 : decode cX7_mayCome 50 = .ok (.iaload, 1) := by decide +kernel
theorem dX7_mayCome_51 : decode cX7_mayCome 51 = .ok (.aload_n 0, 1) := by decide +kernel
theorem dX7_mayCome_52 : decode cX7_mayCome 52 = .ok (.getfield 19, 3) := by decide +kernel
theorem dX7_mayCome_55 : decode cX7_mayCome 55 = .ok (.getfield 161, 3) := by decide +kernel
theorem dX7_mayCome_58 : decode cX7_mayCome 58 = .ok (.if_icmp .ge 7, 3) := by decide +kernel
theorem dX7_mayCome_61 : decode cX7_mayCome 61 = .ok (.iconst 1, 1) := by decide +kernel
theorem dX7_mayCome_62 : decode cX7_mayCome 62 = .ok (.goto 4, 3) := by decide +kernel
theorem dX7_mayCome_65 : decode cX7_mayCome 65 = .ok (.iconst 0, 1) := by decide +kernel
theorem dX7_mayCome_66 : decode cX7_mayCome 66 = .ok (.ireturn, 1) := by decide +kernel
theorem dX7_year_0 : decode cX7_year 0 = .ok (.aload_n 0, 1) := by decide +kernel
theorem dX7_year_1 : decode cX7_year 1 = .ok (.dup, 1) := by decide +kernel
theorem dX7_year_2 : decode cX7_year 2 = .ok (.getfield 58, 3) := by decide +kernel
theorem dX7_year_5 : decode cX7_year 5 = .ok (.iconst 1, 1) := by decide +kernel
theorem dX7_year_6 : decode cX7_year 6 = .ok (.iadd, 1) := by decide +kernel
theorem dX7_year_7 : decode cX7_year 7 = .ok (.putfield 58, 3) := by decide +kernel
theorem dX7_year_10 : decode cX7_year 10 = .ok (.iconst 0, 1) := by decide +kernel
theorem dX7_year_11 : decode cX7_year 11 = .ok (.istore_n 1, 1) := by decide +kernel
theorem dX7_year_12 : decode cX7_year 12 = .ok (.iconst 0, 1) := by decide +kernel
theorem dX7_year_13 : decode cX7_year 13 = .ok (.istore_n 2, 1) := by decide +kernel
theorem dX7_year_14 : decode cX7_year 14 = .ok (.iload_n 2, 1) := by decide +kernel
theorem dX7_year_15 : decode cX7_year 15 = .ok (.aload_n 0, 1) := by decide +kernel
theorem dX7_year_16 : decode cX7_year 16 = .ok (.getfield 33, 3) := by decide +kernel
theorem dX7_year_19 : decode cX7_year 19 = .ok (.getfield 145, 3) := by decide +kernel
theorem dX7_year_22 : decode cX7_year 22 = .ok (.if_icmp .ge 75, 3) := by decide +kernel
theorem dX7_year_25 : decode cX7_year 25 = .ok (.aload_n 0, 1) := by decide +kernel
theorem dX7_year_26 : decode cX7_year 26 = .ok (.getfield 33, 3) := by decide +kernel
theorem dX7_year_29 : decode cX7_year 29 = .ok (.iload_n 2, 1) := by decide +kernel
theorem dX7_year_30 : decode cX7_year 30 = .ok (.invokevirtual 164, 3) := by decide +kernel
theorem dX7_year_33 : decode cX7_year 33 = .ok (.aload_n 0, 1) := by decide +kernel
theorem dX7_year_34 : decode cX7_year 34 = .ok (.getfield 33, 3) := by decide +kernel
theorem dX7_year_37 : decode cX7_year 37 = .ok (.getfield 118, 3) := by decide +kernel
theorem dX7_year_40 : decode cX7_year 40 = .ok (.iload_n 2, 1) := by decide +kernel
theorem dX7_year_41 : decode cX7_year 41 = .ok (.iaload, 1) := by decide +kernel
theorem dX7_year_42 : decode cX7_year 42 = .ok (.iconst 1, 1) := by decide +kernel
theorem dX7_year_43 : decode cX7_year 43 = .ok (.if_icmp .ne 48, 3) := by decide +kernel
theorem dX7_year_46 : decode cX7_year 46 = .ok (.aload_n 0, 1) := by decide +kernel
theorem dX7_year_47 : decode cX7_year 47 = .ok (.getfield 33, 3) := by decide +kernel
theorem dX7_year_50 : decode cX7_year 50 = .ok (.getfield 155, 3) := by decide +kernel
theorem dX7_year_53 : decode cX7_year 53 = .ok (.iload_n 2, 1) := by decide +kernel
theorem dX7_year_54 : decode cX7_year 54 = .ok (.iaload, 1) := by decide +kernel
theorem dX7_year_55 : decode cX7_year 55 = .ok (.aload_n 0, 1) := by decide +kernel
theorem dX7_year_56 : decode cX7_year 56 = .ok (.getfield 19, 3) := by decide +kernel
theorem dX7_year_59 : decode cX7_year 59 = .ok (.getfield 161, 3) := by decide +kernel
theorem dX7_year_62 : decode cX7_year 62 = .ok (.if_icmp .lt 29, 3) := by decide +kernel
theorem dX7_year_65 : decode cX7_year 65 = .ok (.aload_n 0, 1) := by decide +kernel
theorem dX7_year_66 : decode cX7_year 66 = .ok (.getfield 33, 3) := by decide +kernel
theorem dX7_year_69 : decode cX7_year 69 = .ok (.getfield 118, 3) := by decide +kernel
theorem dX7_year_72 : decode cX7_year 72 = .ok (.iload_n 2, 1) := by decide +kernel
theorem dX7_year_73 : decode cX7_year 73 = .ok (.iconst 2, 1) := by decide +kernel
theorem dX7_year_74 : decode cX7_year 74 = .ok (.iastore, 1) := by decide +kernel
theorem dX7_year_75 : decode cX7_year 75 = .ok (.aload_n 0, 1) := by decide +kernel
theorem dX7_year_76 : decode cX7_year 76 = .ok (.aload_n 0, 1) := by decide +kernel
theorem dX7_year_77 : decode cX7_year 77 = .ok (.getfield 33, 3) := by decide +kernel
theorem dX7_year_80 : decode cX7_year 80 = .ok (.getfield 167, 3) := by decide +kernel
theorem dX7_year_83 : decode cX7_year 83 = .ok (.iload_n 2, 1) := by decide +kernel
theorem dX7_year_84 : decode cX7_year 84 = .ok (.iaload, 1) := by decide +kernel
theorem dX7_year_85 : decode cX7_year 85 = .ok (.invokevirtual 170, 3) := by decide +kernel
theorem dX7_year_88 : decode cX7_year 88 = .ok (.iinc 1 1, 3) := by decide +kernel
theorem dX7_year_91 : decode cX7_year 91 = .ok (.iinc 2 1, 3) := by decide +kernel
theorem dX7_year_94 : decode cX7_year 94 = .ok (.goto (-80), 3) := by decide +kernel
theorem dX7_year_97 : decode cX7_year 97 = .ok (.iconst 0, 1) := by decide +kernel
theorem dX7_year_98 : decode cX7_year 98 = .ok (.istore_n 2, 1) := by decide +kernel
theorem dX7_year_99 : decode cX7_year 99 = .ok (.iload_n 2, 1) := by decide +kernel
theorem dX7_year_100 : decode cX7_year 100 = .ok (.aload_n 0, 1) := by decide +kernel
theorem dX7_year_101 : decode cX7_year 101 = .ok (.getfield 40, 3) := by decide +kernel
theorem dX7_year_104 : decode cX7_year 104 = .ok (.getfield 173, 3) := by decide +kernel
theorem dX7_year_107 : decode cX7_year 107 = .ok (.if_icmp .ge 32, 3) := by decide +kernel
theorem dX7_year_110 : decode cX7_year 110 = .ok (.aload_n 0, 1) := by decide +kernel
theorem dX7_year_111 : decode cX7_year 111 = .ok (.getfield 40, 3) := by decide +kernel
theorem dX7_year_114 : decode cX7_year 114 = .ok (.iload_n 2, 1) := by decide +kernel
theorem dX7_year_115 : decode cX7_year 115 = .ok (.aload_n 0, 1) := by decide +kernel
theorem dX7_year_116 : decode cX7_year 116 = .ok (.getfield 19, 3) := by decide +kernel
theorem dX7_year_119 : decode cX7_year 119 = .ok (.getfield 174, 3) := by decide +kernel
theorem dX7_year_122 : decode cX7_year 122 = .ok (.invokevirtual 177, 3) := by decide +kernel
theorem dX7_year_125 : decode cX7_year 125 = .ok (.ifCond .eq 8, 3) := by decide +kernel
theorem dX7_year_128 : decode cX7_year 128 = .ok (.aload_n 0, 1) := by decide +kernel
theorem dX7_year_129 : decode cX7_year 129 = .ok (.iload_n 2, 1) := by decide +kernel
theorem dX7_year_130 : decode cX7_year 130 = .ok (.invokevirtual 170, 3) := by decide +kernel
theorem dX7_year_133 : decode cX7_year 133 = .ok (.iinc 2 1, 3) := by decide +kernel
theorem dX7_year_136 : decode cX7_year 136 = .ok (.goto (-37), 3) := by decide +kernel
theorem dX7_year_139 : decode cX7_year 139 = .ok (.iload_n 1, 1) := by decide +kernel
theorem dX7_year_140 : decode cX7_year 140 = .ok (.ireturn, 1) := by decide +kernel
theorem dX7_handIn_0 : decode cX7_handIn 0 = .ok (.aload_n 0, 1) := by decide +kernel
theorem dX7_handIn_1 : decode cX7_handIn 1 = .ok (.getfield 40, 3) := by decide +kernel
theorem dX7_handIn_4 : decode cX7_handIn 4 = .ok (.iload_n 1, 1) := by decide +kernel
theorem dX7_handIn_5 : decode cX7_handIn 5 = .ok (.invokevirtual 181, 3) := by decide +kernel
theorem dX7_handIn_8 : decode cX7_handIn 8 = .ok (.ifCond .ne 4, 3) := by decide +kernel
theorem dX7_handIn_11 : decode cX7_handIn 11 = .ok (.return_, 1) := by decide +kernel
theorem dX7_handIn_12 : decode cX7_handIn 12 = .ok (.aload_n 0, 1) := by decide +kernel
theorem dX7_handIn_13 : decode cX7_handIn 13 = .ok (.getfield 40, 3) := by decide +kernel
theorem dX7_handIn_16 : decode cX7_handIn 16 = .ok (.getfield 182, 3) := by decide +kernel
theorem dX7_handIn_19 : decode cX7_handIn 19 = .ok (.iload_n 1, 1) := by decide +kernel
theorem dX7_handIn_20 : decode cX7_handIn 20 = .ok (.iaload, 1) := by decide +kernel
theorem dX7_handIn_21 : decode cX7_handIn 21 = .ok (.istore_n 2, 1) := by decide +kernel
theorem dX7_handIn_22 : decode cX7_handIn 22 = .ok (.aload_n 0, 1) := by decide +kernel
theorem dX7_handIn_23 : decode cX7_handIn 23 = .ok (.getfield 40, 3) := by decide +kernel
theorem dX7_handIn_26 : decode cX7_handIn 26 = .ok (.getfield 182, 3) := by decide +kernel
theorem dX7_handIn_29 : decode cX7_handIn 29 = .ok (.iload_n 1, 1) := by decide +kernel
theorem dX7_handIn_30 : decode cX7_handIn 30 = .ok (.iconst (-1), 1) := by decide +kernel
theorem dX7_handIn_31 : decode cX7_handIn 31 = .ok (.iastore, 1) := by decide +kernel
theorem dX7_handIn_32 : decode cX7_handIn 32 = .ok (.aload_n 0, 1) := by decide +kernel
theorem dX7_handIn_33 : decode cX7_handIn 33 = .ok (.getfield 33, 3) := by decide +kernel
theorem dX7_handIn_36 : decode cX7_handIn 36 = .ok (.iload_n 2, 1) := by decide +kernel
theorem dX7_handIn_37 : decode cX7_handIn 37 = .ok (.invokevirtual 98, 3) := by decide +kernel
theorem dX7_handIn_40 : decode cX7_handIn 40 = .ok (.ifCond .eq 13, 3) := by decide +kernel
theorem dX7_handIn_43 : decode cX7_handIn 43 = .ok (.aload_n 0, 1) := by decide +kernel
theorem dX7_handIn_44 : decode cX7_handIn 44 = .ok (.getfield 33, 3) := by decide +kernel
theorem dX7_handIn_47 : decode cX7_handIn 47 = .ok (.getfield 167, 3) := by decide +kernel
theorem dX7_handIn_50 : decode cX7_handIn 50 = .ok (.iload_n 2, 1) := by decide +kernel
theorem dX7_handIn_51 : decode cX7_handIn 51 = .ok (.iconst (-1), 1) := by decide +kernel
theorem dX7_handIn_52 : decode cX7_handIn 52 = .ok (.iastore, 1) := by decide +kernel
theorem dX7_handIn_53 : decode cX7_handIn 53 = .ok (.return_, 1) := by decide +kernel
theorem dX7_handOut_0 : decode cX7_handOut 0 = .ok (.aload_n 0, 1) := by decide +kernel
theorem dX7_handOut_1 : decode cX7_handOut 1 = .ok (.getfield 40, 3) := by decide +kernel
theorem dX7_handOut_4 : decode cX7_handOut 4 = .ok (.iload_n 1, 1) := by decide +kernel
theorem dX7_handOut_5 : decode cX7_handOut 5 = .ok (.invokevirtual 181, 3) := by decide +kernel
theorem dX7_handOut_8 : decode cX7_handOut 8 = .ok (.ifCond .eq 34, 3) := by decide +kernel
theorem dX7_handOut_11 : decode cX7_handOut 11 = .ok (.aload_n 0, 1) := by decide +kernel
theorem dX7_handOut_12 : decode cX7_handOut 12 = .ok (.getfield 33, 3) := by decide +kernel
theorem dX7_handOut_15 : decode cX7_handOut 15 = .ok (.iload_n 2, 1) := by decide +kernel
theorem dX7_handOut_16 : decode cX7_handOut 16 = .ok (.invokevirtual 98, 3) := by decide +kernel
theorem dX7_handOut_19 : decode cX7_handOut 19 = .ok (.ifCond .eq 23, 3) := by decide +kernel
theorem dX7_handOut_22 : decode cX7_handOut 22 = .ok (.aload_n 0, 1) := by decide +kernel
theorem dX7_handOut_23 : decode cX7_handOut 23 = .ok (.getfield 40, 3) := by decide +kernel
theorem dX7_handOut_26 : decode cX7_handOut 26 = .ok (.getfield 182, 3) := by decide +kernel
theorem dX7_handOut_29 : decode cX7_handOut 29 = .ok (.iload_n 1, 1) := by decide +kernel
theorem dX7_handOut_30 : decode cX7_handOut 30 = .ok (.iload_n 2, 1) := by decide +kernel
theorem dX7_handOut_31 : decode cX7_handOut 31 = .ok (.iastore, 1) := by decide +kernel
theorem dX7_handOut_32 : decode cX7_handOut 32 = .ok (.aload_n 0, 1) := by decide +kernel
theorem dX7_handOut_33 : decode cX7_handOut 33 = .ok (.getfield 33, 3) := by decide +kernel
theorem dX7_handOut_36 : decode cX7_handOut 36 = .ok (.getfield 167, 3) := by decide +kernel
theorem dX7_handOut_39 : decode cX7_handOut 39 = .ok (.iload_n 2, 1) := by decide +kernel
theorem dX7_handOut_40 : decode cX7_handOut 40 = .ok (.iload_n 1, 1) := by decide +kernel
theorem dX7_handOut_41 : decode cX7_handOut 41 = .ok (.iastore, 1) := by decide +kernel
theorem dX7_handOut_42 : decode cX7_handOut 42 = .ok (.return_, 1) := by decide +kernel
theorem dX7_feast_0 : decode cX7_feast 0 = .ok (.aload_n 0, 1) := by decide +kernel
theorem dX7_feast_1 : decode cX7_feast 1 = .ok (.getfield 47, 3) := by decide +kernel
theorem dX7_feast_4 : decode cX7_feast 4 = .ok (.aload_n 0, 1) := by decide +kernel
theorem dX7_feast_5 : decode cX7_feast 5 = .ok (.getfield 33, 3) := by decide +kernel
theorem dX7_feast_8 : decode cX7_feast 8 = .ok (.aload_n 0, 1) := by decide +kernel
theorem dX7_feast_9 : decode cX7_feast 9 = .ok (.getfield 40, 3) := by decide +kernel
theorem dX7_feast_12 : decode cX7_feast 12 = .ok (.aload_n 0, 1) := by decide +kernel
theorem dX7_feast_13 : decode cX7_feast 13 = .ok (.getfield 19, 3) := by decide +kernel
theorem dX7_feast_16 : decode cX7_feast 16 = .ok (.getfield 185, 3) := by decide +kernel
theorem dX7_feast_19 : decode cX7_feast 19 = .ok (.invokevirtual 188, 3) := by decide +kernel
theorem dX7_feast_22 : decode cX7_feast 22 = .ok (.aload_n 0, 1) := by decide +kernel
theorem dX7_feast_23 : decode cX7_feast 23 = .ok (.getfield 40, 3) := by decide +kernel
theorem dX7_feast_26 : decode cX7_feast 26 = .ok (.getfield 173, 3) := by decide +kernel
theorem dX7_feast_29 : decode cX7_feast 29 = .ok (.aload_n 0, 1) := by decide +kernel
theorem dX7_feast_30 : decode cX7_feast 30 = .ok (.getfield 47, 3) := by decide +kernel
theorem dX7_feast_33 : decode cX7_feast 33 = .ok (.invokevirtual 192, 3) := by decide +kernel
theorem dX7_feast_36 : decode cX7_feast 36 = .ok (.iadd, 1) := by decide +kernel
theorem dX7_feast_37 : decode cX7_feast 37 = .ok (.bipush 40, 2) := by decide +kernel
theorem dX7_feast_39 : decode cX7_feast 39 = .ok (.if_icmp .le 5, 3) := by decide +kernel
theorem dX7_feast_42 : decode cX7_feast 42 = .ok (.iconst (-1), 1) := by decide +kernel
theorem dX7_feast_43 : decode cX7_feast 43 = .ok (.ireturn, 1) := by decide +kernel
theorem dX7_feast_44 : decode cX7_feast 44 = .ok (.iconst 0, 1) := by decide +kernel
theorem dX7_feast_45 : decode cX7_feast 45 = .ok (.istore_n 1, 1) := by decide +kernel
theorem dX7_feast_46 : decode cX7_feast 46 = .ok (.iload_n 1, 1) := by decide +kernel
theorem dX7_feast_47 : decode cX7_feast 47 = .ok (.aload_n 0, 1) := by decide +kernel
theorem dX7_feast_48 : decode cX7_feast 48 = .ok (.getfield 40, 3) := by decide +kernel
theorem dX7_feast_51 : decode cX7_feast 51 = .ok (.getfield 173, 3) := by decide +kernel
theorem dX7_feast_54 : decode cX7_feast 54 = .ok (.if_icmp .ge 14, 3) := by decide +kernel
theorem dX7_feast_57 : decode cX7_feast 57 = .ok (.aload_n 0, 1) := by decide +kernel
theorem dX7_feast_58 : decode cX7_feast 58 = .ok (.iload_n 1, 1) := by decide +kernel
theorem dX7_feast_59 : decode cX7_feast 59 = .ok (.invokevirtual 170, 3) := by decide +kernel
theorem dX7_feast_62 : decode cX7_feast 62 = .ok (.iinc 1 1, 3) := by decide +kernel
theorem dX7_feast_65 : decode cX7_feast 65 = .ok (.goto (-19), 3) := by decide +kernel
theorem dX7_feast_68 : decode cX7_feast 68 = .ok (.iconst 0, 1) := by decide +kernel
theorem dX7_feast_69 : decode cX7_feast 69 = .ok (.istore_n 1, 1) := by decide +kernel
theorem dX7_feast_70 : decode cX7_feast 70 = .ok (.iconst 0, 1) := by decide +kernel
theorem dX7_feast_71 : decode cX7_feast 71 = .ok (.istore_n 2, 1) := by decide +kernel
theorem dX7_feast_72 : decode cX7_feast 72 = .ok (.iload_n 2, 1) := by decide +kernel
theorem dX7_feast_73 : decode cX7_feast 73 = .ok (.aload_n 0, 1) := by decide +kernel
theorem dX7_feast_74 : decode cX7_feast 74 = .ok (.getfield 47, 3) := by decide +kernel
theorem dX7_feast_77 : decode cX7_feast 77 = .ok (.getfield 195, 3) := by decide +kernel
theorem dX7_feast_80 : decode cX7_feast 80 = .ok (.if_icmp .ge 73, 3) := by decide +kernel
theorem dX7_feast_83 : decode cX7_feast 83 = .ok (.aload_n 0, 1) := by decide +kernel
theorem dX7_feast_84 : decode cX7_feast 84 = .ok (.getfield 47, 3) := by decide +kernel
theorem dX7_feast_87 : decode cX7_feast 87 = .ok (.getfield 198, 3) := by decide +kernel
theorem dX7_feast_90 : decode cX7_feast 90 = .ok (.iload_n 2, 1) := by decide +kernel
theorem dX7_feast_91 : decode cX7_feast 91 = .ok (.iaload, 1) := by decide +kernel
theorem dX7_feast_92 : decode cX7_feast 92 = .ok (.istore_n 3, 1) := by decide +kernel
theorem dX7_feast_93 : decode cX7_feast 93 = .ok (.aload_n 0, 1) := by decide +kernel
theorem dX7_feast_94 : decode cX7_feast 94 = .ok (.getfield 47, 3) := by decide +kernel
theorem dX7_feast_97 : decode cX7_feast 97 = .ok (.getfield 201, 3) := by decide +kernel
theorem dX7_feast_100 : decode cX7_feast 100 = .ok (.iload_n 2, 1) := by decide +kernel
theorem dX7_feast_101 : decode cX7_feast 101 = .ok (.iaload, 1) := by decide +kernel
theorem dX7_feast_102 : decode cX7_feast 102 = .ok (.istore 4, 2) := by decide +kernel
theorem dX7_feast_104 : decode cX7_feast 104 = .ok (.iload 4, 2) := by decide +kernel
theorem dX7_feast_106 : decode cX7_feast 106 = .ok (.iconst (-1), 1) := by decide +kernel
theorem dX7_feast_107 : decode cX7_feast 107 = .ok (.if_icmp .ne 33, 3) := by decide +kernel
theorem dX7_feast_110 : decode cX7_feast 110 = .ok (.aload_n 0, 1) := by decide +kernel
theorem dX7_feast_111 : decode cX7_feast 111 = .ok (.getfield 40, 3) := by decide +kernel
theorem dX7_feast_114 : decode cX7_feast 114 = .ok (.aload_n 0, 1) := by decide +kernel
theorem dX7_feast_115 : decode cX7_feast 115 = .ok (.getfield 33, 3) := by decide +kernel
theorem dX7_feast_118 : decode cX7_feast 118 = .ok (.getfield 204, 3) := by decide +kernel
theorem dX7_feast_121 : decode cX7_feast 121 = .ok (.iload_n 3, 1) := by decide +kernel
theorem dX7_feast_122 : decode cX7_feast 122 = .ok (.iaload, 1) := by decide +kernel
theorem dX7_feast_123 : decode cX7_feast 123 = .ok (.invokevirtual 207, 3) := by decide +kernel
theorem dX7_feast_126 : decode cX7_feast 126 = .ok (.istore 4, 2) := by decide +kernel
theorem dX7_feast_128 : decode cX7_feast 128 = .ok (.iload_n 1, 1) := by decide +kernel
theorem dX7_feast_129 : decode cX7_feast 129 = .ok (.aload_n 0, 1) := by decide +kernel
theorem dX7_feast_130 : decode cX7_feast 130 = .ok (.getfield 33, 3) := by decide +kernel
theorem dX7_feast_133 : decode cX7_feast 133 = .ok (.getfield 204, 3) := by decide +kernel
theorem dX7_feast_136 : decode cX7_feast 136 = .ok (.iload_n 3, 1) := by decide +kernel
theorem dX7_feast_137 : decode cX7_feast 137 = .ok (.iaload, 1) := by decide +kernel
theorem dX7_feast_138 : decode cX7_feast 138 = .ok (.iadd, 1) := by decide +kernel
theorem dX7_feast_139 : decode cX7_feast 139 = .ok (.istore_n 1, 1) := by decide +kernel
theorem dX7_feast_140 : decode cX7_feast 140 = .ok (.aload_n 0, 1) := by decide +kernel
theorem dX7_feast_141 : decode cX7_feast 141 = .ok (.iload 4, 2) := by decide +kernel
theorem dX7_feast_143 : decode cX7_feast 143 = .ok (.iload_n 3, 1) := by decide +kernel
theorem dX7_feast_144 : decode cX7_feast 144 = .ok (.invokevirtual 210, 3) := by decide +kernel
theorem dX7_feast_147 : decode cX7_feast 147 = .ok (.iinc 2 1, 3) := by decide +kernel
theorem dX7_feast_150 : decode cX7_feast 150 = .ok (.goto (-78), 3) := by decide +kernel
theorem dX7_feast_153 : decode cX7_feast 153 = .ok (.iload_n 1, 1) := by decide +kernel
theorem dX7_feast_154 : decode cX7_feast 154 = .ok (.ireturn, 1) := by decide +kernel
theorem dX7_legacy_0 : decode cX7_legacy 0 = .ok (.aload_n 0, 1) := by decide +kernel
theorem dX7_legacy_1 : decode cX7_legacy 1 = .ok (.getfield 54, 3) := by decide +kernel
theorem dX7_legacy_4 : decode cX7_legacy 4 = .ok (.iload_n 1, 1) := by decide +kernel
theorem dX7_legacy_5 : decode cX7_legacy 5 = .ok (.iload_n 2, 1) := by decide +kernel
theorem dX7_legacy_6 : decode cX7_legacy 6 = .ok (.invokevirtual 214, 3) := by decide +kernel
theorem dX7_legacy_9 : decode cX7_legacy 9 = .ok (.ireturn, 1) := by decide +kernel
theorem dX7_need_0 : decode cX7_need 0 = .ok (.iload_n 1, 1) := by decide +kernel
theorem dX7_need_1 : decode cX7_need 1 = .ok (.ifCond .lt 20, 3) := by decide +kernel
theorem dX7_need_4 : decode cX7_need 4 = .ok (.iload_n 1, 1) := by decide +kernel
theorem dX7_need_5 : decode cX7_need 5 = .ok (.bipush 6, 2) := by decide +kernel
theorem dX7_need_7 : decode cX7_need 7 = .ok (.if_icmp .ge 14, 3) := by decide +kernel
theorem dX7_need_10 : decode cX7_need 10 = .ok (.iload_n 2, 1) := by decide +kernel
theorem dX7_need_11 : decode cX7_need 11 = .ok (.ifCond .lt 10, 3) := by decide +kernel
theorem dX7_need_14 : decode cX7_need 14 = .ok (.iload_n 2, 1) := by decide +kernel
theorem dX7_need_15 : decode cX7_need 15 = .ok (.sipush 9999, 3) := by decide +kernel
theorem dX7_need_18 : decode cX7_need 18 = .ok (.if_icmp .le 5, 3) := by decide +kernel
theorem dX7_need_21 : decode cX7_need 21 = .ok (.iconst 0, 1) := by decide +kernel
theorem dX7_need_22 : decode cX7_need 22 = .ok (.ireturn, 1) := by decide +kernel
theorem dX7_need_23 : decode cX7_need 23 = .ok (.aload_n 0, 1) := by decide +kernel
theorem dX7_need_24 : decode cX7_need 24 = .ok (.getfield 54, 3) := by decide +kernel
theorem dX7_need_27 : decode cX7_need 27 = .ok (.getfield 216, 3) := by decide +kernel
theorem dX7_need_30 : decode cX7_need 30 = .ok (.iload_n 1, 1) := by decide +kernel
theorem dX7_need_31 : decode cX7_need 31 = .ok (.iload_n 2, 1) := by decide +kernel
theorem dX7_need_32 : decode cX7_need 32 = .ok (.iastore, 1) := by decide +kernel
theorem dX7_need_33 : decode cX7_need 33 = .ok (.iconst 1, 1) := by decide +kernel
theorem dX7_need_34 : decode cX7_need 34 = .ok (.ireturn, 1) := by decide +kernel
theorem dX7_owed_0 : decode cX7_owed 0 = .ok (.aload_n 0, 1) := by decide +kernel
theorem dX7_owed_1 : decode cX7_owed 1 = .ok (.getfield 54, 3) := by decide +kernel
theorem dX7_owed_4 : decode cX7_owed 4 = .ok (.invokevirtual 217, 3) := by decide +kernel
theorem dX7_owed_7 : decode cX7_owed 7 = .ok (.iload_n 1, 1) := by decide +kernel
theorem dX7_owed_8 : decode cX7_owed 8 = .ok (.tableswitch 101 0 3 #[32, 56, 85, 93], 32) := by decide +kernel
theorem dX7_owed_40 : decode cX7_owed 40 = .ok (.iload_n 2, 1) := by decide +kernel
theorem dX7_owed_41 : decode cX7_owed 41 = .ok (.ifCond .lt 21, 3) := by decide +kernel
theorem dX7_owed_44 : decode cX7_owed 44 = .ok (.iload_n 2, 1) := by decide +kernel
theorem dX7_owed_45 : decode cX7_owed 45 = .ok (.bipush 6, 2) := by decide +kernel
theorem dX7_owed_47 : decode cX7_owed 47 = .ok (.if_icmp .ge 15, 3) := by decide +kernel
theorem dX7_owed_50 : decode cX7_owed 50 = .ok (.aload_n 0, 1) := by decide +kernel
theorem dX7_owed_51 : decode cX7_owed 51 = .ok (.getfield 54, 3) := by decide +kernel
theorem dX7_owed_54 : decode cX7_owed 54 = .ok (.getfield 219, 3) := by decide +kernel
theorem dX7_owed_57 : decode cX7_owed 57 = .ok (.iload_n 2, 1) := by decide +kernel
theorem dX7_owed_58 : decode cX7_owed 58 = .ok (.iaload, 1) := by decide +kernel
theorem dX7_owed_59 : decode cX7_owed 59 = .ok (.goto 4, 3) := by decide +kernel
theorem dX7_owed_62 : decode cX7_owed 62 = .ok (.iconst (-1), 1) := by decide +kernel
theorem dX7_owed_63 : decode cX7_owed 63 = .ok (.ireturn, 1) := by decide +kernel
theorem dX7_owed_64 : decode cX7_owed 64 = .ok (.iload_n 2, 1) := by decide +kernel
theorem dX7_owed_65 : decode cX7_owed 65 = .ok (.ifCond .lt 26, 3) := by decide +kernel
theorem dX7_owed_68 : decode cX7_owed 68 = .ok (.iload_n 2, 1) := by decide +kernel
theorem dX7_owed_69 : decode cX7_owed 69 = .ok (.aload_n 0, 1) := by decide +kernel
theorem dX7_owed_70 : decode cX7_owed 70 = .ok (.getfield 54, 3) := by decide +kernel
theorem dX7_owed_73 : decode cX7_owed 73 = .ok (.getfield 222, 3) := by decide +kernel
theorem dX7_owed_76 : decode cX7_owed 76 = .ok (.if_icmp .ge 15, 3) := by decide +kernel
theorem dX7_owed_79 : decode cX7_owed 79 = .ok (.aload_n 0, 1) := by decide +kernel
theorem dX7_owed_80 : decode cX7_owed 80 = .ok (.getfield 54, 3) := by decide +kernel
theorem dX7_owed_83 : decode cX7_owed 83 = .ok (.getfield 223, 3) := by decide +kernel
theorem dX7_owed_86 : decode cX7_owed 86 = .ok (.iload_n 2, 1) := by decide +kernel
theorem dX7_owed_87 : decode cX7_owed 87 = .ok (.iaload, 1) := by decide +kernel
theorem dX7_owed_88 : decode cX7_owed 88 = .ok (.goto 4, 3) := by decide +kernel
theorem dX7_owed_91 : decode cX7_owed 91 = .ok (.iconst (-1), 1) := by decide +kernel
theorem dX7_owed_92 : decode cX7_owed 92 = .ok (.ireturn, 1) := by decide +kernel
theorem dX7_owed_93 : decode cX7_owed 93 = .ok (.aload_n 0, 1) := by decide +kernel
theorem dX7_owed_94 : decode cX7_owed 94 = .ok (.getfield 54, 3) := by decide +kernel
theorem dX7_owed_97 : decode cX7_owed 97 = .ok (.getfield 226, 3) := by decide +kernel
theorem dX7_owed_100 : decode cX7_owed 100 = .ok (.ireturn, 1) := by decide +kernel
theorem dX7_owed_101 : decode cX7_owed 101 = .ok (.aload_n 0, 1) := by decide +kernel
theorem dX7_owed_102 : decode cX7_owed 102 = .ok (.getfield 54, 3) := by decide +kernel
theorem dX7_owed_105 : decode cX7_owed 105 = .ok (.getfield 229, 3) := by decide +kernel
theorem dX7_owed_108 : decode cX7_owed 108 = .ok (.ireturn, 1) := by decide +kernel
theorem dX7_owed_109 : decode cX7_owed 109 = .ok (.iconst (-1), 1) := by decide +kernel
theorem dX7_owed_110 : decode cX7_owed 110 = .ok (.ireturn, 1) := by decide +kernel
theorem dX7_pay_0 : decode cX7_pay 0 = .ok (.aload_n 0, 1) := by decide +kernel
theorem dX7_pay_1 : decode cX7_pay 1 = .ok (.getfield 54, 3) := by decide +kernel
theorem dX7_pay_4 : decode cX7_pay 4 = .ok (.invokevirtual 217, 3) := by decide +kernel
theorem dX7_pay_7 : decode cX7_pay 7 = .ok (.aload_n 0, 1) := by decide +kernel
theorem dX7_pay_8 : decode cX7_pay 8 = .ok (.getfield 54, 3) := by decide +kernel
theorem dX7_pay_11 : decode cX7_pay 11 = .ok (.invokevirtual 232, 3) := by decide +kernel
theorem dX7_pay_14 : decode cX7_pay 14 = .ok (.ireturn, 1) := by decide +kernel
theorem dX7_look_0 : decode cX7_look 0 = .ok (.aload_n 0, 1) := by decide +kernel
theorem dX7_look_1 : decode cX7_look 1 = .ok (.getfield 33, 3) := by decide +kernel
theorem dX7_look_4 : decode cX7_look 4 = .ok (.iload_n 1, 1) := by decide +kernel
theorem dX7_look_5 : decode cX7_look 5 = .ok (.invokevirtual 98, 3) := by decide +kernel
theorem dX7_look_8 : decode cX7_look 8 = .ok (.ifCond .ne 13, 3) := by decide +kernel
theorem dX7_look_11 : decode cX7_look 11 = .ok (.new 235, 3) := by decide +kernel
theorem dX7_look_14 : decode cX7_look 14 = .ok (.dup, 1) := by decide +kernel
theorem dX7_look_15 : decode cX7_look 15 = .ok (.ldc 237, 2) := by decide +kernel
theorem dX7_look_17 : decode cX7_look 17 = .ok (.invokespecial 239, 3) := by decide +kernel
theorem dX7_look_20 : decode cX7_look 20 = .ok (.athrow, 1) := by decide +kernel
theorem dX7_look_21 : decode cX7_look 21 = .ok (.iload_n 2, 1) := by decide +kernel
theorem dX7_look_22 : decode cX7_look 22 = .ok (.tableswitch 104 0 5 #[38, 48, 58, 68, 78, 88], 38) := by decide +kernel
theorem dX7_look_60 : decode cX7_look 60 = .ok (.aload_n 0, 1) := by decide +kernel
theorem dX7_look_61 : decode cX7_look 61 = .ok (.getfield 33, 3) := by decide +kernel
theorem dX7_look_64 : decode cX7_look 64 = .ok (.getfield 155, 3) := by decide +kernel
theorem dX7_look_67 : decode cX7_look 67 = .ok (.iload_n 1, 1) := by decide +kernel
theorem dX7_look_68 : decode cX7_look 68 = .ok (.iaload, 1) := by decide +kernel
theorem dX7_look_69 : decode cX7_look 69 = .ok (.ireturn, 1) := by decide +kernel
theorem dX7_look_70 : decode cX7_look 70 = .ok (.aload_n 0, 1) := by decide +kernel
theorem dX7_look_71 : decode cX7_look 71 = .ok (.getfield 33, 3) := by decide +kernel
theorem dX7_look_74 : decode cX7_look 74 = .ok (.getfield 152, 3) := by decide +kernel
theorem dX7_look_77 : decode cX7_look 77 = .ok (.iload_n 1, 1) := by decide +kernel
theorem dX7_look_78 : decode cX7_look 78 = .ok (.iaload, 1) := by decide +kernel
theorem dX7_look_79 : decode cX7_look 79 = .ok (.ireturn, 1) := by decide +kernel
theorem dX7_look_80 : decode cX7_look 80 = .ok (.aload_n 0, 1) := by decide +kernel
theorem dX7_look_81 : decode cX7_look 81 = .ok (.getfield 33, 3) := by decide +kernel
theorem dX7_look_84 : decode cX7_look 84 = .ok (.getfield 204, 3) := by decide +kernel
theorem dX7_look_87 : decode cX7_look 87 = .ok (.iload_n 1, 1) := by decide +kernel
theorem dX7_look_88 : decode cX7_look 88 = .ok (.iaload, 1) := by decide +kernel
theorem dX7_look_89 : decode cX7_look 89 = .ok (.ireturn, 1) := by decide +kernel
theorem dX7_look_90 : decode cX7_look 90 = .ok (.aload_n 0, 1) := by decide +kernel
theorem dX7_look_91 : decode cX7_look 91 = .ok (.getfield 33, 3) := by decide +kernel
theorem dX7_look_94 : decode cX7_look 94 = .ok (.getfield 118, 3) := by decide +kernel
theorem dX7_look_97 : decode cX7_look 97 = .ok (.iload_n 1, 1) := by decide +kernel
theorem dX7_look_98 : decode cX7_look 98 = .ok (.iaload, 1) := by decide +kernel
theorem dX7_look_99 : decode cX7_look 99 = .ok (.ireturn, 1) := by decide +kernel
theorem dX7_look_100 : decode cX7_look 100 = .ok (.aload_n 0, 1) := by decide +kernel
theorem dX7_look_101 : decode cX7_look 101 = .ok (.getfield 33, 3) := by decide +kernel
theorem dX7_look_104 : decode cX7_look 104 = .ok (.getfield 167, 3) := by decide +kernel
theorem dX7_look_107 : decode cX7_look 107 = .ok (.iload_n 1, 1) := by decide +kernel
theorem dX7_look_108 : decode cX7_look 108 = .ok (.iaload, 1) := by decide +kernel
theorem dX7_look_109 : decode cX7_look 109 = .ok (.ireturn, 1) := by decide +kernel
theorem dX7_look_110 : decode cX7_look 110 = .ok (.aload_n 0, 1) := by decide +kernel
theorem dX7_look_111 : decode cX7_look 111 = .ok (.getfield 26, 3) := by decide +kernel
theorem dX7_look_114 : decode cX7_look 114 = .ok (.iload_n 1, 1) := by decide +kernel
theorem dX7_look_115 : decode cX7_look 115 = .ok (.aload_n 0, 1) := by decide +kernel
theorem dX7_look_116 : decode cX7_look 116 = .ok (.getfield 19, 3) := by decide +kernel
theorem dX7_look_119 : decode cX7_look 119 = .ok (.getfield 146, 3) := by decide +kernel
theorem dX7_look_122 : decode cX7_look 122 = .ok (.invokevirtual 149, 3) := by decide +kernel
theorem dX7_look_125 : decode cX7_look 125 = .ok (.ireturn, 1) := by decide +kernel
theorem dX7_look_126 : decode cX7_look 126 = .ok (.new 242, 3) := by decide +kernel
theorem dX7_look_129 : decode cX7_look 129 = .ok (.dup, 1) := by decide +kernel
theorem dX7_look_130 : decode cX7_look 130 = .ok (.ldc 244, 2) := by decide +kernel
theorem dX7_look_132 : decode cX7_look 132 = .ok (.invokespecial 246, 3) := by decide +kernel
theorem dX7_look_135 : decode cX7_look 135 = .ok (.athrow, 1) := by decide +kernel
theorem dX7_coat_0 : decode cX7_coat 0 = .ok (.aload_n 0, 1) := by decide +kernel
theorem dX7_coat_1 : decode cX7_coat 1 = .ok (.getfield 40, 3) := by decide +kernel
theorem dX7_coat_4 : decode cX7_coat 4 = .ok (.iload_n 1, 1) := by decide +kernel
theorem dX7_coat_5 : decode cX7_coat 5 = .ok (.invokevirtual 181, 3) := by decide +kernel
theorem dX7_coat_8 : decode cX7_coat 8 = .ok (.ifCond .ne 5, 3) := by decide +kernel
theorem dX7_coat_11 : decode cX7_coat 11 = .ok (.iconst (-1), 1) := by decide +kernel
theorem dX7_coat_12 : decode cX7_coat 12 = .ok (.ireturn, 1) := by decide +kernel
theorem dX7_coat_13 : decode cX7_coat 13 = .ok (.iload_n 2, 1) := by decide +kernel
theorem dX7_coat_14 : decode cX7_coat 14 = .ok (.tableswitch 78 0 3 #[30, 40, 50, 68], 30) := by decide +kernel
theorem dX7_coat_44 : decode cX7_coat 44 = .ok (.aload_n 0, 1) := by decide +kernel
theorem dX7_coat_45 : decode cX7_coat 45 = .ok (.getfield 40, 3) := by decide +kernel
theorem dX7_coat_48 : decode cX7_coat 48 = .ok (.getfield 247, 3) := by decide +kernel
theorem dX7_coat_51 : decode cX7_coat 51 = .ok (.iload_n 1, 1) := by decide +kernel
theorem dX7_coat_52 : decode cX7_coat 52 = .ok (.iaload, 1) := by decide +kernel
theorem dX7_coat_53 : decode cX7_coat 53 = .ok (.ireturn, 1) := by decide +kernel
theorem dX7_coat_54 : decode cX7_coat 54 = .ok (.aload_n 0, 1) := by decide +kernel
theorem dX7_coat_55 : decode cX7_coat 55 = .ok (.getfield 40, 3) := by decide +kernel
theorem dX7_coat_58 : decode cX7_coat 58 = .ok (.getfield 248, 3) := by decide +kernel
theorem dX7_coat_61 : decode cX7_coat 61 = .ok (.iload_n 1, 1) := by decide +kernel
theorem dX7_coat_62 : decode cX7_coat 62 = .ok (.iaload, 1) := by decide +kernel
theorem dX7_coat_63 : decode cX7_coat 63 = .ok (.ireturn, 1) := by decide +kernel
theorem dX7_coat_64 : decode cX7_coat 64 = .ok (.aload_n 0, 1) := by decide +kernel
theorem dX7_coat_65 : decode cX7_coat 65 = .ok (.getfield 40, 3) := by decide +kernel
theorem dX7_coat_68 : decode cX7_coat 68 = .ok (.getfield 251, 3) := by decide +kernel
theorem dX7_coat_71 : decode cX7_coat 71 = .ok (.iload_n 1, 1) := by decide +kernel
theorem dX7_coat_72 : decode cX7_coat 72 = .ok (.baload, 1) := by decide +kernel
theorem dX7_coat_73 : decode cX7_coat 73 = .ok (.ifCond .eq 7, 3) := by decide +kernel
theorem dX7_coat_76 : decode cX7_coat 76 = .ok (.iconst 1, 1) := by decide +kernel
theorem dX7_coat_77 : decode cX7_coat 77 = .ok (.goto 4, 3) := by decide +kernel
theorem dX7_coat_80 : decode cX7_coat 80 = .ok (.iconst 0, 1) := by decide +kernel
theorem dX7_coat_81 : decode cX7_coat 81 = .ok (.ireturn, 1) := by decide +kernel
theorem dX7_coat_82 : decode cX7_coat 82 = .ok (.aload_n 0, 1) := by decide +kernel
theorem dX7_coat_83 : decode cX7_coat 83 = .ok (.getfield 40, 3) := by decide +kernel
theorem dX7_coat_86 : decode cX7_coat 86 = .ok (.getfield 182, 3) := by decide +kernel
theorem dX7_coat_89 : decode cX7_coat 89 = .ok (.iload_n 1, 1) := by decide +kernel
theorem dX7_coat_90 : decode cX7_coat 90 = .ok (.iaload, 1) := by decide +kernel
theorem dX7_coat_91 : decode cX7_coat 91 = .ok (.ireturn, 1) := by decide +kernel
theorem dX7_coat_92 : decode cX7_coat 92 = .ok (.iconst (-1), 1) := by decide +kernel
theorem dX7_coat_93 : decode cX7_coat 93 = .ok (.ireturn, 1) := by decide +kernel
theorem dX7_count_0 : decode cX7_count 0 = .ok (.iload_n 1, 1) := by decide +kernel
theorem dX7_count_1 : decode cX7_count 1 = .ok (.tableswitch 108 0 7 #[47, 55, 63, 71, 79, 87, 95, 103], 47) := by decide +kernel
theorem dX7_count_48 : decode cX7_count 48 = .ok (.aload_n 0, 1) := by decide +kernel
theorem dX7_count_49 : decode cX7_count 49 = .ok (.getfield 26, 3) := by decide +kernel
theorem dX7_count_52 : decode cX7_count 52 = .ok (.getfield 136, 3) := by decide +kernel
theorem dX7_count_55 : decode cX7_count 55 = .ok (.ireturn, 1) := by decide +kernel
theorem dX7_count_56 : decode cX7_count 56 = .ok (.aload_n 0, 1) := by decide +kernel
theorem dX7_count_57 : decode cX7_count 57 = .ok (.getfield 33, 3) := by decide +kernel
theorem dX7_count_60 : decode cX7_count 60 = .ok (.getfield 145, 3) := by decide +kernel
theorem dX7_count_63 : decode cX7_count 63 = .ok (.ireturn, 1) := by decide +kernel
theorem dX7_count_64 : decode cX7_count 64 = .ok (.aload_n 0, 1) := by decide +kernel
theorem dX7_count_65 : decode cX7_count 65 = .ok (.getfield 33, 3) := by decide +kernel
theorem dX7_count_68 : decode cX7_count 68 = .ok (.invokevirtual 106, 3) := by decide +kernel
theorem dX7_count_71 : decode cX7_count 71 = .ok (.ireturn, 1) := by decide +kernel
theorem dX7_count_72 : decode cX7_count 72 = .ok (.aload_n 0, 1) := by decide +kernel
theorem dX7_count_73 : decode cX7_count 73 = .ok (.getfield 40, 3) := by decide +kernel
theorem dX7_count_76 : decode cX7_count 76 = .ok (.getfield 173, 3) := by decide +kernel
theorem dX7_count_79 : decode cX7_count 79 = .ok (.ireturn, 1) := by decide +kernel
theorem dX7_count_80 : decode cX7_count 80 = .ok (.aload_n 0, 1) := by decide +kernel
theorem dX7_count_81 : decode cX7_count 81 = .ok (.getfield 54, 3) := by decide +kernel
theorem dX7_count_84 : decode cX7_count 84 = .ok (.getfield 222, 3) := by decide +kernel
theorem dX7_count_87 : decode cX7_count 87 = .ok (.ireturn, 1) := by decide +kernel
theorem dX7_count_88 : decode cX7_count 88 = .ok (.aload_n 0, 1) := by decide +kernel
theorem dX7_count_89 : decode cX7_count 89 = .ok (.getfield 26, 3) := by decide +kernel
theorem dX7_count_92 : decode cX7_count 92 = .ok (.getfield 133, 3) := by decide +kernel
theorem dX7_count_95 : decode cX7_count 95 = .ok (.ireturn, 1) := by decide +kernel
theorem dX7_count_96 : decode cX7_count 96 = .ok (.aload_n 0, 1) := by decide +kernel
theorem dX7_count_97 : decode cX7_count 97 = .ok (.getfield 19, 3) := by decide +kernel
theorem dX7_count_100 : decode cX7_count 100 = .ok (.invokevirtual 112, 3) := by decide +kernel
theorem dX7_count_103 : decode cX7_count 103 = .ok (.ireturn, 1) := by decide +kernel
theorem dX7_count_104 : decode cX7_count 104 = .ok (.aload_n 0, 1) := by decide +kernel
theorem dX7_count_105 : decode cX7_count 105 = .ok (.getfield 58, 3) := by decide +kernel
theorem dX7_count_108 : decode cX7_count 108 = .ok (.ireturn, 1) := by decide +kernel
theorem dX7_count_109 : decode cX7_count 109 = .ok (.iconst (-1), 1) := by decide +kernel
theorem dX7_count_110 : decode cX7_count 110 = .ok (.ireturn, 1) := by decide +kernel
end
section
/-! The words that all contracts of this claim use: the array classes, a contract's start, the world behind it, calls by one row. -/
abbrev aTy (cB cI cJ cZ : ClassId) : List (ClassId × FieldType) := [(cB, .byte), (cI, .int), (cJ, .long), (cZ, .boolean)]
/-- a writer's start: the cells ws, the heap's size -/
abbrev cPre (D : va_G) (T : List (ClassId × FieldType)) (ws : va_W) (sz : Nat) (av : List Value) : Array Value → State → Prop := va_Pc av (fun U => U.heap.size = sz ∧ va_P D vwCl ws U.heap ∧ va_K D vwCl T U ∧ va_D (fun _ => True) ws)
/-- a reader's start -/
abbrev cRd (D : va_G) (T : List (ClassId × FieldType)) (ws : va_W) (av : List Value) : Array Value → State → Prop := va_Pc av (fun U => va_P D vwCl ws U.heap ∧ va_K D vwCl T U)
/-- the world behind a writer -/
abbrev cB_ (D : va_G) (T : List (ClassId × FieldType)) (A : Nat → Prop) {S : Type} (F : S → va_W) (u : S) (t : State) : Prop := va_P D vwCl (F u) t.heap ∧ va_K D vwCl T t ∧ va_D A (F u)
theorem aTy_uni {D : va_G} {cl : List vw_C} {tys : List (ClassId × FieldType)} {U : State} {k : Nat} {c0 cA : ClassId} {ty : FieldType} (hk : tys[k]? = some (c0, ty)) (hp : refKind ty = false) (h : va_K D cl (tys ++ [(cA, ty)]) U) : cA = c0 := by
  have hl : k < tys.length := (List.getElem?_eq_some_iff.mp hk).1
  have h1 := (h.2 k (c0, ty) (by rw [List.getElem?_append_left hl]; exact hk)).2
  have h2 := (h.2 tys.length (cA, ty) (by rw [List.getElem?_append_right (Nat.le_refl _)]; simp)).2
  cases ty with
  | object C => simp [refKind] at hp
  | _ =>
    have h1 : U.vm.findClass _ = some c0 := h1
    have h2 : U.vm.findClass _ = some cA := h2
    exact (Option.some.inj (h1.symm.trans h2)).symm
section CB
variable {p : Program} {l : Launch} {e : Env} {R : Room} {s : State} {m : MethodId} {args : Array Value} {below : List Frame} {meth : Method} {c : Code} {H : Heap} {locs : List Loc} {cells slots : Nat} {Q : State → Prop}
variable {cc : ByteArray} {pc : Nat} {ls : Array Slot} {rest : List Value}
theorem sv_iadd (hexec : p.tables.exec = Jvm.exec) (hb : c.code = cc) {x y v : Int32} (hdg : decode cc pc = .ok (.iadd, 1)) (hv : x + y = v) (k : W p l e R s m args below meth c H locs cells slots Q (F0 m (pc + 1) ls (.int v :: rest))) : W p l e R s m args below meth c H locs cells slots Q (F0 m pc ls (.int y :: .int x :: rest)) := by
  subst hv; exact lv_iadd hexec hb hdg k
theorem sv_isub (hexec : p.tables.exec = Jvm.exec) (hb : c.code = cc) {x y v : Int32} (hdg : decode cc pc = .ok (.isub, 1)) (hv : x - y = v) (k : W p l e R s m args below meth c H locs cells slots Q (F0 m (pc + 1) ls (.int v :: rest))) : W p l e R s m args below meth c H locs cells slots Q (F0 m pc ls (.int y :: .int x :: rest)) := by
  subst hv; exact lv_isub hexec hb hdg k
theorem sv_imul (hexec : p.tables.exec = Jvm.exec) (hb : c.code = cc) {x y v : Int32} (hdg : decode cc pc = .ok (.imul, 1)) (hv : x * y = v) (k : W p l e R s m args below meth c H locs cells slots Q (F0 m (pc + 1) ls (.int v :: rest))) : W p l e R s m args below meth c H locs cells slots Q (F0 m pc ls (.int y :: .int x :: rest)) := by
  subst hv; exact lv_imul hexec hb hdg k
theorem sv_iand (hexec : p.tables.exec = Jvm.exec) (hb : c.code = cc) {x y v : Int32} (hdg : decode cc pc = .ok (.iand, 1)) (hv : x &&& y = v) (k : W p l e R s m args below meth c H locs cells slots Q (F0 m (pc + 1) ls (.int v :: rest))) : W p l e R s m args below meth c H locs cells slots Q (F0 m pc ls (.int y :: .int x :: rest)) := by
  subst hv; exact lv_iand hexec hb hdg k
theorem sv_ior (hexec : p.tables.exec = Jvm.exec) (hb : c.code = cc) {x y v : Int32} (hdg : decode cc pc = .ok (.ior, 1)) (hv : x ||| y = v) (k : W p l e R s m args below meth c H locs cells slots Q (F0 m (pc + 1) ls (.int v :: rest))) : W p l e R s m args below meth c H locs cells slots Q (F0 m pc ls (.int y :: .int x :: rest)) := by
  subst hv; exact lv_ior hexec hb hdg k
theorem sv_ixor (hexec : p.tables.exec = Jvm.exec) (hb : c.code = cc) {x y v : Int32} (hdg : decode cc pc = .ok (.ixor, 1)) (hv : x ^^^ y = v) (k : W p l e R s m args below meth c H locs cells slots Q (F0 m (pc + 1) ls (.int v :: rest))) : W p l e R s m args below meth c H locs cells slots Q (F0 m pc ls (.int y :: .int x :: rest)) := by
  subst hv; exact lv_ixor hexec hb hdg k
theorem sv_ishl (hexec : p.tables.exec = Jvm.exec) (hb : c.code = cc) {x y v : Int32} (hdg : decode cc pc = .ok (.ishl, 1)) (hv : x <<< (y &&& 31) = v) (k : W p l e R s m args below meth c H locs cells slots Q (F0 m (pc + 1) ls (.int v :: rest))) : W p l e R s m args below meth c H locs cells slots Q (F0 m pc ls (.int y :: .int x :: rest)) := by
  subst hv; exact lv_ishl hexec hb hdg k
theorem sv_ishr (hexec : p.tables.exec = Jvm.exec) (hb : c.code = cc) {x y v : Int32} (hdg : decode cc pc = .ok (.ishr, 1)) (hv : x >>> (y &&& 31) = v) (k : W p l e R s m args below meth c H locs cells slots Q (F0 m (pc + 1) ls (.int v :: rest))) : W p l e R s m args below meth c H locs cells slots Q (F0 m pc ls (.int y :: .int x :: rest)) := by
  subst hv; exact lv_ishr hexec hb hdg k
theorem sv_irem (hexec : p.tables.exec = Jvm.exec) (hb : c.code = cc) {x y v : Int32} (hdg : decode cc pc = .ok (.irem, 1)) (hne : ¬ y = 0) (hv : x - x / y * y = v) (k : W p l e R s m args below meth c H locs cells slots Q (F0 m (pc + 1) ls (.int v :: rest))) : W p l e R s m args below meth c H locs cells slots Q (F0 m pc ls (.int y :: .int x :: rest)) := by
  subst hv; exact lv_irem hexec hb hdg hne k
theorem sv_idiv (hexec : p.tables.exec = Jvm.exec) (hb : c.code = cc) {x y v : Int32} (hdg : decode cc pc = .ok (.idiv, 1)) (hne : ¬ y = 0) (hv : x / y = v) (k : W p l e R s m args below meth c H locs cells slots Q (F0 m (pc + 1) ls (.int v :: rest))) : W p l e R s m args below meth c H locs cells slots Q (F0 m pc ls (.int y :: .int x :: rest)) := by
  subst hv; exact lv_idiv hexec hb hdg hne k
variable {D : va_G} {cl : List vw_C} {tys : List (ClassId × FieldType)} {ws : va_W} {a : Nat} {A : Nat → Prop} {H0 : Heap}
theorem sv_iald (hexec : p.tables.exec = Jvm.exec) (hb : c.code = cc) (hK : va_K D cl tys s) (hP : va_P D cl ws H) (q0 t0 : Nat) {cA : ClassId} {n : Nat} {f : Nat → Int32} (ha : ws[q0]? = some (a, .inl (cA, n, .inl f))) (ht : tys[t0]? = some (cA, .int)) {i v : Int32} (hin : vp_in i n) (hv : f i.toNatClampNeg = v) (hdg : decode cc pc = .ok (.iaload, 1)) (kk : W p l e R s m args below meth c H locs cells slots Q (F0 m (pc + 1) ls (.int v :: rest))) : W p l e R s m args below meth c H locs cells slots Q (F0 m pc ls (.int i :: .ref a :: rest)) := by
  subst hv; exact va_iald hexec hb hK hP q0 t0 ha ht hin hdg kk
theorem sv_bald (hexec : p.tables.exec = Jvm.exec) (hb : c.code = cc) (hK : va_K D cl tys s) (hP : va_P D cl ws H) (q0 t0 : Nat) {cA : ClassId} {n : Nat} {f : Nat → Int32} (ha : ws[q0]? = some (a, .inl (cA, n, .inl f))) (ht : tys[t0]? = some (cA, .byte)) {i v : Int32} (hin : vp_in i n) (hv : f i.toNatClampNeg = v) (hdg : decode cc pc = .ok (.baload, 1)) (kk : W p l e R s m args below meth c H locs cells slots Q (F0 m (pc + 1) ls (.int v :: rest))) : W p l e R s m args below meth c H locs cells slots Q (F0 m pc ls (.int i :: .ref a :: rest)) := by
  subst hv; exact va_bald hexec hb hK hP q0 t0 ha ht hin hdg kk
theorem sv_zald (hexec : p.tables.exec = Jvm.exec) (hb : c.code = cc) (hK : va_K D cl tys s) (hP : va_P D cl ws H) (q0 t0 : Nat) {cA : ClassId} {n : Nat} {f : Nat → Int32} (ha : ws[q0]? = some (a, .inl (cA, n, .inl f))) (ht : tys[t0]? = some (cA, .boolean)) {i v : Int32} (hin : vp_in i n) (hv : f i.toNatClampNeg = v) (hdg : decode cc pc = .ok (.baload, 1)) (kk : W p l e R s m args below meth c H locs cells slots Q (F0 m (pc + 1) ls (.int v :: rest))) : W p l e R s m args below meth c H locs cells slots Q (F0 m pc ls (.int i :: .ref a :: rest)) := by
  subst hv; exact va_zald hexec hb hK hP q0 t0 ha ht hin hdg kk
theorem sv_lald (hexec : p.tables.exec = Jvm.exec) (hb : c.code = cc) (hK : va_K D cl tys s) (hP : va_P D cl ws H) (q0 t0 : Nat) {cA : ClassId} {n : Nat} {f : Nat → Int64} (ha : ws[q0]? = some (a, .inl (cA, n, .inr (.inl f)))) (ht : tys[t0]? = some (cA, .long)) {i : Int32} {v : Int64} (hin : vp_in i n) (hv : f i.toNatClampNeg = v) (hdg : decode cc pc = .ok (.laload, 1)) (kk : W p l e R s m args below meth c H locs cells slots Q (F0 m (pc + 1) ls (.long v :: rest))) : W p l e R s m args below meth c H locs cells slots Q (F0 m pc ls (.int i :: .ref a :: rest)) := by
  subst hv; exact va_lald hexec hb hK hP q0 t0 ha ht hin hdg kk
/-- stores: the row's new contents get a name -/
theorem sv_iast (hexec : p.tables.exec = Jvm.exec) (hb : c.code = cc) (hK : va_K D cl tys s) (hP : va_P D cl ws H) (hD : va_D A ws) (hS : va_S A H0 H locs) (q0 t0 : Nat) {cA : ClassId} {n : Nat} {f : Nat → Int32} (ha : ws[q0]? = some (a, .inl (cA, n, .inl f))) (ht : tys[t0]? = some (cA, .int)) {i : Int32} {x : Int32} (hin : vp_in i n) (hdg : decode cc pc = .ok (.iastore, 1)) (kk : ∀ (g : Nat → Int32) (H1 : Heap) (locs1 : List Loc), g = upd f i.toNatClampNeg x → va_P D cl (ws.set q0 (a, .inl (cA, n, .inl g))) H1 → va_D A (ws.set q0 (a, .inl (cA, n, .inl g))) → va_S A H0 H1 locs1 → W p l e R s m args below meth c H1 locs1 cells slots Q (F0 m (pc + 1) ls rest)) : W p l e R s m args below meth c H locs cells slots Q (F0 m pc ls (.int x :: .int i :: .ref a :: rest)) :=
  va_iast hexec hb hK hP hD hS q0 t0 ha ht hin hdg (fun H1 locs1 h1 h2 h3 => kk _ H1 locs1 rfl h1 h2 h3)
theorem sv_bast (hexec : p.tables.exec = Jvm.exec) (hb : c.code = cc) (hK : va_K D cl tys s) (hP : va_P D cl ws H) (hD : va_D A ws) (hS : va_S A H0 H locs) (q0 t0 : Nat) {cA : ClassId} {n : Nat} {f : Nat → Int32} (ha : ws[q0]? = some (a, .inl (cA, n, .inl f))) (ht : tys[t0]? = some (cA, .byte)) {i : Int32} {x : Int32} (hin : vp_in i n) (hdg : decode cc pc = .ok (.bastore, 1)) (kk : ∀ (g : Nat → Int32) (H1 : Heap) (locs1 : List Loc), g = upd f i.toNatClampNeg (vp_nar .byte x) → va_P D cl (ws.set q0 (a, .inl (cA, n, .inl g))) H1 → va_D A (ws.set q0 (a, .inl (cA, n, .inl g))) → va_S A H0 H1 locs1 → W p l e R s m args below meth c H1 locs1 cells slots Q (F0 m (pc + 1) ls rest)) : W p l e R s m args below meth c H locs cells slots Q (F0 m pc ls (.int x :: .int i :: .ref a :: rest)) :=
  va_bast hexec hb hK hP hD hS q0 t0 ha ht hin hdg (fun H1 locs1 h1 h2 h3 => kk _ H1 locs1 rfl h1 h2 h3)
theorem sv_zast (hexec : p.tables.exec = Jvm.exec) (hb : c.code = cc) (hK : va_K D cl tys s) (hP : va_P D cl ws H) (hD : va_D A ws) (hS : va_S A H0 H locs) (q0 t0 : Nat) {cA : ClassId} {n : Nat} {f : Nat → Int32} (ha : ws[q0]? = some (a, .inl (cA, n, .inl f))) (ht : tys[t0]? = some (cA, .boolean)) {i : Int32} {x : Int32} (hin : vp_in i n) (hdg : decode cc pc = .ok (.bastore, 1)) (kk : ∀ (g : Nat → Int32) (H1 : Heap) (locs1 : List Loc), g = upd f i.toNatClampNeg (vp_nar .boolean x) → va_P D cl (ws.set q0 (a, .inl (cA, n, .inl g))) H1 → va_D A (ws.set q0 (a, .inl (cA, n, .inl g))) → va_S A H0 H1 locs1 → W p l e R s m args below meth c H1 locs1 cells slots Q (F0 m (pc + 1) ls rest)) : W p l e R s m args below meth c H locs cells slots Q (F0 m pc ls (.int x :: .int i :: .ref a :: rest)) :=
  va_zast hexec hb hK hP hD hS q0 t0 ha ht hin hdg (fun H1 locs1 h1 h2 h3 => kk _ H1 locs1 rfl h1 h2 h3)
theorem sv_last (hexec : p.tables.exec = Jvm.exec) (hb : c.code = cc) (hK : va_K D cl tys s) (hP : va_P D cl ws H) (hD : va_D A ws) (hS : va_S A H0 H locs) (q0 t0 : Nat) {cA : ClassId} {n : Nat} {f : Nat → Int64} (ha : ws[q0]? = some (a, .inl (cA, n, .inr (.inl f)))) (ht : tys[t0]? = some (cA, .long)) {i : Int32} {x : Int64} (hin : vp_in i n) (hdg : decode cc pc = .ok (.lastore, 1)) (kk : ∀ (g : Nat → Int64) (H1 : Heap) (locs1 : List Loc), g = vp_updL f i.toNatClampNeg x → va_P D cl (ws.set q0 (a, .inl (cA, n, .inr (.inl g)))) H1 → va_D A (ws.set q0 (a, .inl (cA, n, .inr (.inl g)))) → va_S A H0 H1 locs1 → W p l e R s m args below meth c H1 locs1 cells slots Q (F0 m (pc + 1) ls rest)) : W p l e R s m args below meth c H locs cells slots Q (F0 m pc ls (.long x :: .int i :: .ref a :: rest)) :=
  va_last hexec hb hK hP hD hS q0 t0 ha ht hin hdg (fun H1 locs1 h1 h2 h3 => kk _ H1 locs1 rfl h1 h2 h3)
/-- a new row: its class is the known one -/
theorem sv_newa (hexec : p.tables.exec = Jvm.exec) (hb : c.code = cc) {atype : ArrayType} (harr : (Cond.arrayClass (newarray.typeOf atype)).before args s = true) {ty : FieldType} (hty : newarray.typeOf atype = ty) (hp : refKind ty = false) (hK : va_K D cl tys s) (hP : va_P D cl ws H) (hD : va_D A ws) (hS : va_S A H0 H locs) (hA : ∀ q, H0.size ≤ q → A q) (t0 : Nat) {cA : ClassId} (ht : tys[t0]? = some (cA, ty)) {n : Int32} {N' : Nat} {a0 : vp_A} (ha : ∀ cA : ClassId, vp_cell cA a0 = arrV cA N' (fun _ => defaultValue ty)) (hn : ¬ n < 0) (hN : n.toNatClampNeg = N') (hbytes : N' * componentBytes ty ≤ 536870912) (hcells : cells + 1 ≤ R.cells) (hslots : slots + N' ≤ R.slots) (k9 n9 : Nat) (hk9 : cells + 1 = k9) (hn9 : slots + N' = n9) (hdg : decode cc pc = .ok (.newarray atype, 2)) (kk : ∀ (q : Nat) (H1 : Heap), va_P D cl (ws ++ [(q, .inl (cA, a0))]) H1 → va_D A (ws ++ [(q, .inl (cA, a0))]) → va_S A H0 H1 locs → W p l e R s m args below meth c H1 locs k9 n9 Q (F0 m (pc + 2) ls (.ref q :: rest))) : W p l e R s m args below meth c H locs cells slots Q (F0 m pc ls (.int n :: rest)) := by
  subst hk9; subst hn9
  refine va_newa hexec hb harr hty hK hP hD hS hA ha hn hN hbytes hcells hslots hdg (fun q cA1 H1 hK1 hP1 hD1 hS1 => ?_)
  have h9 : cA1 = cA := aTy_uni ht hp hK1
  subst h9
  exact kk q H1 hP1 hD1 hS1
end CB
section CC
variable {p : Program} {l : Launch} {e : Env} {R : Room} {s : State} {m : MethodId} {args : Array Value} {below : List Frame} {meth : Method} {c : Code} {H : Heap} {locs : List Loc} {cells slots : Nat} {Q : State → Prop}
variable {pc : Nat} {ls : Array Slot} {rest st0 : List Value} {a : Array Value} {A0 : Nat → Prop} {H0 : Heap} {mc ms : Nat}
variable {D : va_G} {T : List (ClassId × FieldType)} {ws wc wr : va_W}
/-- a writer is called: its cells wc come back as F u, the rest wr is as it was -/
theorem cl_i {S : Type} {post : Int32 → S → Prop} {F : S → va_W} (hr : va_Run p l e R s m args below meth c H locs cells slots mc ms (F0 m pc ls st0) rest (va_Qi post (cB_ D T (va_A wc H.size) F) (va_A wc H.size) a) (va_A wc H.size)) (hP : va_P D vwCl ws H) (hD : va_D A0 ws) (hS : va_S A0 H0 H locs) (hA : ∀ q, H0.size ≤ q → A0 q) (isC isR : List Nat) (hC : isC.map (fun i => ws[i]?) = wc.map some) (hR : isR.map (fun i => ws[i]?) = wr.map some) (hn : va_nd isR = true) (hdis : ∀ i ∈ isR, i ∉ isC) (k9 n9 : Nat) (hk9 : cells + mc = k9) (hn9 : slots + ms = n9)
    (kk : ∀ (r : Int32) (u : S) (H1 : Heap) (locs1 : List Loc), post r u → va_P D vwCl (wr ++ F u) H1 → va_D A0 (wr ++ F u) → va_S A0 H0 H1 locs1 → W p l e R s m args below meth c H1 locs1 k9 n9 Q (F0 m (pc + 3) ls (.int r :: rest))) : W p l e R s m args below meth c H locs cells slots Q (F0 m pc ls st0) := by
  subst hk9; subst hn9
  have hFc := va_free (wc := wc) hD hS hA isC hC
  refine va_calli hr hS (fun q _ h => hFc q h) hFc (fun r u t H1 locs1 ht hvm hw hB hz1 hk1 hS1 => ?_)
  obtain ⟨hP1, -, hD1⟩ := hB
  rw [ht] at hP1
  obtain ⟨hP2, hD2⟩ := va_join (wr := wr) (w1 := F u) hP hD isC isR hC hR hn hdis hk1 hFc hP1 hD1
  exact kk r u H1 locs1 hw hP2 hD2 hS1
theorem cl_v {S : Type} {post : S → Prop} {F : S → va_W} (hr : va_Run p l e R s m args below meth c H locs cells slots mc ms (F0 m pc ls st0) rest (va_Qv post (cB_ D T (va_A wc H.size) F) (va_A wc H.size) a) (va_A wc H.size)) (hP : va_P D vwCl ws H) (hD : va_D A0 ws) (hS : va_S A0 H0 H locs) (hA : ∀ q, H0.size ≤ q → A0 q) (isC isR : List Nat) (hC : isC.map (fun i => ws[i]?) = wc.map some) (hR : isR.map (fun i => ws[i]?) = wr.map some) (hn : va_nd isR = true) (hdis : ∀ i ∈ isR, i ∉ isC) (k9 n9 : Nat) (hk9 : cells + mc = k9) (hn9 : slots + ms = n9)
    (kk : ∀ (u : S) (H1 : Heap) (locs1 : List Loc), post u → va_P D vwCl (wr ++ F u) H1 → va_D A0 (wr ++ F u) → va_S A0 H0 H1 locs1 → W p l e R s m args below meth c H1 locs1 k9 n9 Q (F0 m (pc + 3) ls rest)) : W p l e R s m args below meth c H locs cells slots Q (F0 m pc ls st0) := by
  subst hk9; subst hn9
  have hFc := va_free (wc := wc) hD hS hA isC hC
  refine va_callv hr hS (fun q _ h => hFc q h) hFc (fun u t H1 locs1 ht hvm hw hB hz1 hk1 hS1 => ?_)
  obtain ⟨hP1, -, hD1⟩ := hB
  rw [ht] at hP1
  obtain ⟨hP2, hD2⟩ := va_join (wr := wr) (w1 := F u) hP hD isC isR hC hR hn hdis hk1 hFc hP1 hD1
  exact kk u H1 locs1 hw hP2 hD2 hS1
theorem bl_c {ws : va_W} {sz : Nat} {av : List Value} : FrameBlind (cPre D T ws sz av) := fun a U g mk q => by
  obtain ⟨q0, q1, qP, qK, qD⟩ := q
  exact ⟨q0, q1, qP, va_K.moved (u := U) (U := U.calling g mk a) (Vm.Alike.refl U.vm) qK, qD⟩
theorem bl_r {ws : va_W} {av : List Value} : FrameBlind (cRd D T ws av) := fun a U g mk q => by
  obtain ⟨q0, qP, qK⟩ := q
  exact ⟨q0, qP, va_K.moved (u := U) (U := U.calling g mk a) (Vm.Alike.refl U.vm) qK⟩
theorem pre_V {wc : va_W} {A : Nat → Prop} {C : String} {b : Addr} {As av : List Value} {TT : u_T} {N : Nat} (hP : va_P D vwCl wc H) (hK : va_K D vwCl T s) (hD : va_D A wc) (q0 : Nat) {ci : Nat} {fs : List Value} (he : wc[q0]? = some (b, .inr (ci, fs))) (hc : vwCl[ci]? = some (C, TT, N)) (hav : Value.ref b :: As = av) : PreV s H C b (cPre D T wc H.size av) As := by
  subst hav
  exact ⟨bl_c, va_recv hK hP hc he, fun U hU hW => ⟨rfl, by rw [hU], by rw [hU]; exact hP, va_K.moved hW.alike hK, hD.weaken (fun _ _ _ _ => trivial)⟩⟩
theorem pre_VR {wc : va_W} {C : String} {b : Addr} {As av : List Value} {TT : u_T} {N : Nat} (hP : va_P D vwCl wc H) (hK : va_K D vwCl T s) (q0 : Nat) {ci : Nat} {fs : List Value} (he : wc[q0]? = some (b, .inr (ci, fs))) (hc : vwCl[ci]? = some (C, TT, N)) (hav : Value.ref b :: As = av) : PreV s H C b (cRd D T wc av) As := by
  subst hav
  exact ⟨bl_r, va_recv hK hP hc he, fun U hU hW => ⟨rfl, by rw [hU]; exact hP, va_K.moved hW.alike hK⟩⟩
theorem pre_I {wc : va_W} {A : Nat → Prop} {b : Addr} {As av : List Value} (hP : va_P D vwCl wc H) (hK : va_K D vwCl T s) (hD : va_D A wc) (hav : Value.ref b :: As = av) : PreS s H (cPre D T wc H.size av) (.ref b :: As) := by
  subst hav
  exact ⟨bl_c, fun U hU hW => ⟨rfl, by rw [hU], by rw [hU]; exact hP, va_K.moved hW.alike hK, hD.weaken (fun _ _ _ _ => trivial)⟩⟩
theorem pre_SR {wc : va_W} {As : List Value} (hP : va_P D vwCl wc H) (hK : va_K D vwCl T s) : PreS s H (cRd D T wc As) As :=
  ⟨bl_r, fun U hU hW => ⟨rfl, by rw [hU]; exact hP, va_K.moved hW.alike hK⟩⟩
end CC
end
section
/-! Pure rows: counters, switches, the start's contents. -/
abbrev cyc0 : Nat → Int32 := upd (fun _ => 0) 0 2
theorem upd_zero (k : Nat) : upd (fun _ => (0 : Int32)) k 0 = fun _ => 0 := by
  funext j
  unfold upd
  split <;> rfl
theorem ax_add (a k : Nat) : nI a + Int32.ofNat k = nI (a + k) := nI_add a k
theorem lp_inc {i B : Int32} (c : ¬ B ≤ i) : (i + 1).toInt = i.toInt + 1 := by
  have h : i.toInt < B.toInt := Int.not_le.mp (fun q => c (Int32.le_iff_toInt_le.mpr q))
  have h2 : B.toInt < 2147483648 := Int32.toInt_lt B
  have h3 : (-2147483648 : Int) ≤ i.toInt := Int32.le_toInt i
  rw [Int32.toInt_add]
  have : (1 : Int32).toInt = 1 := by decide
  rw [this]
  exact Int.bmod_eq_of_le (by omega) (by omega)
theorem lp_dec {i B : Int32} {n : Nat} (hn : (Int32.toInt B - i.toInt).toNat < n + 1) (c : ¬ B ≤ i) : (Int32.toInt B - (i + 1).toInt).toNat < n := by
  have h : i.toInt < B.toInt := Int.not_le.mp (fun q => c (Int32.le_iff_toInt_le.mpr q))
  rw [lp_inc c]
  omega
theorem lp_in {i B : Int32} {n : Nat} (hlo : 0 ≤ i.toInt) (c : ¬ B ≤ i) (hB : B.toInt ≤ n) : vp_in i n := by
  have h : i.toInt < B.toInt := Int.not_le.mp (fun q => c (Int32.le_iff_toInt_le.mpr q))
  exact vp_in_iff.mpr ⟨hlo, by omega⟩
theorem sw_toInt {x : Int32} {k : Int} (h : x ≠ Int32.ofInt k) (h1 : -2147483648 ≤ k) (h2 : k < 2147483648) : x.toInt ≠ k := by
  intro e
  apply h
  rw [← e]
  exact (Int32.ofInt_toInt x).symm
theorem sw_lk2 {x : Int32} {a b d : Int} (h0 : ¬ x = 0) (h1 : ¬ x = 1) : Op.lookupswitch.offset [(0, a), (1, b)] d x.toInt = d := by
  have e0 := sw_toInt (k := 0) h0 (by decide) (by decide)
  have e1 := sw_toInt (k := 1) h1 (by decide) (by decide)
  simp [Op.lookupswitch.offset, e0, e1, Ne.symm e0, Ne.symm e1]
theorem sw_out4 {x : Int32} (h0 : ¬ x = 0) (h1 : ¬ x = 1) (h2 : ¬ x = 2) (h3 : ¬ x = 3) : x.toInt < 0 ∨ 3 < x.toInt := by
  have e0 := sw_toInt (k := 0) h0 (by decide) (by decide)
  have e1 := sw_toInt (k := 1) h1 (by decide) (by decide)
  have e2 := sw_toInt (k := 2) h2 (by decide) (by decide)
  have e3 := sw_toInt (k := 3) h3 (by decide) (by decide)
  omega
theorem sw_out8 {x : Int32} (h0 : ¬ x = 0) (h1 : ¬ x = 1) (h2 : ¬ x = 2) (h3 : ¬ x = 3) (h4 : ¬ x = 4) (h5 : ¬ x = 5) (h6 : ¬ x = 6) (h7 : ¬ x = 7) : x.toInt < 0 ∨ 7 < x.toInt := by
  have e0 := sw_toInt (k := 0) h0 (by decide) (by decide)
  have e1 := sw_toInt (k := 1) h1 (by decide) (by decide)
  have e2 := sw_toInt (k := 2) h2 (by decide) (by decide)
  have e3 := sw_toInt (k := 3) h3 (by decide) (by decide)
  have e4 := sw_toInt (k := 4) h4 (by decide) (by decide)
  have e5 := sw_toInt (k := 5) h5 (by decide) (by decide)
  have e6 := sw_toInt (k := 6) h6 (by decide) (by decide)
  have e7 := sw_toInt (k := 7) h7 (by decide) (by decide)
  omega
theorem i_le64 {e : Int32} : (64 : Int32) ≤ e ↔ 63 < e := by
  rw [Int32.le_iff_toInt_le, Int32.lt_iff_toInt_lt]
  have h1 : (64 : Int32).toInt = 64 := by decide
  have h2 : (63 : Int32).toInt = 63 := by decide
  rw [h1, h2]; omega
theorem i_lt64 {e : Int32} (h : e < 64) : ¬ 63 < e := fun q => absurd h (Int32.not_lt.mpr (i_le64.mpr q))
theorem i_ge64 {e : Int32} (h : ¬ e < 64) : 63 < e := i_le64.mp (Int32.not_lt.mp h)
theorem i_le6 {e : Int32} : (6 : Int32) ≤ e ↔ 5 < e := by
  rw [Int32.le_iff_toInt_le, Int32.lt_iff_toInt_lt]
  have h1 : (6 : Int32).toInt = 6 := by decide
  have h2 : (5 : Int32).toInt = 5 := by decide
  rw [h1, h2]; omega
theorem i_in6 {e : Int32} (h0 : ¬ e < 0) (h : ¬ (6 : Int32) ≤ e) : vp_in e 6 := by
  refine vp_in_iff.mpr ⟨?_, ?_⟩
  · exact Int.not_lt.mp (fun q => h0 (Int32.lt_iff_toInt_lt.mpr q))
  · exact Int.not_le.mp (fun q => h (Int32.le_iff_toInt_le.mpr q))
abbrev okC (a n s g : Int32) : Prop := ¬ a < 0 ∧ ¬ 20 < a ∧ ¬ n < 0 ∧ ¬ 99 < n ∧ ¬ s < 10 ∧ ¬ 60 < s ∧ ¬ g < 0 ∧ ¬ 4 < g
abbrev okL (n e : Int32) : Prop := ¬ n < 0 ∧ ¬ 9999 < n ∧ ¬ e < 0 ∧ ¬ 63 < e
abbrev okN (e n : Int32) : Prop := ¬ e < 0 ∧ ¬ 5 < e ∧ ¬ n < 0 ∧ ¬ 9999 < n
abbrev okK (k : Int32) : Prop := ¬ k < 0 ∧ ¬ 5 < k
def sFault (p : Int32) : Int32 := if p = 0 then 0 else -1
def sStat (n : Int32) : Int32 := if n = 0 then 0 else -2
def sCount (w : Int32) : Int32 := if w = 6 then 2 else if w = 0 ∨ w = 1 ∨ w = 2 ∨ w = 3 ∨ w = 4 ∨ w = 5 ∨ w = 7 then 0 else -1
def sOwed (w k : Int32) : Int32 := if w = 0 then (if okK k then 0 else -1) else if w = 2 ∨ w = 3 then 0 else -1
theorem i_zero {n : Int32} (h1 : ¬ n < 0) (h2 : ¬ 0 < n) : n = 0 := Int32.le_antisymm (Int32.not_lt.mp h2) (Int32.not_lt.mp h1)
theorem i_nz1 {n : Int32} (h : n < 0) : ¬ n = 0 := fun e => by subst e; exact absurd h (by decide)
theorem i_nz2 {n : Int32} (h : 0 < n) : ¬ n = 0 := fun e => by subst e; exact absurd h (by decide)
theorem nwX0 : ∀ j, j < 9 → defaultValue (tyX0 j) = vp_V [.null, .null, .null, .int 0, .int 0, .int 0, .null, .null, .null] j := fun j hj => by rcases (show j = 0 ∨ j = 1 ∨ j = 2 ∨ j = 3 ∨ j = 4 ∨ j = 5 ∨ j = 6 ∨ j = 7 ∨ j = 8 by omega) with rfl | rfl | rfl | rfl | rfl | rfl | rfl | rfl | rfl <;> rfl
theorem nwX1 : ∀ j, j < 7 → defaultValue (tyX1 j) = vp_V [.null, .null, .null, .null, .null, .null, .int 0] j := fun j hj => by rcases (show j = 0 ∨ j = 1 ∨ j = 2 ∨ j = 3 ∨ j = 4 ∨ j = 5 ∨ j = 6 by omega) with rfl | rfl | rfl | rfl | rfl | rfl | rfl <;> rfl
theorem nwX2 : ∀ j, j < 6 → defaultValue (tyX2 j) = vp_V [.null, .null, .int 0, .null, .null, .int 0] j := fun j hj => by rcases (show j = 0 ∨ j = 1 ∨ j = 2 ∨ j = 3 ∨ j = 4 ∨ j = 5 by omega) with rfl | rfl | rfl | rfl | rfl | rfl <;> rfl
theorem nwX3 : ∀ j, j < 4 → defaultValue (tyX3 j) = vp_V [.null, .null, .int 0, .int 0] j := fun j hj => by rcases (show j = 0 ∨ j = 1 ∨ j = 2 ∨ j = 3 by omega) with rfl | rfl | rfl | rfl <;> rfl
theorem nwX4 : ∀ j, j < 11 → defaultValue (tyX4 j) = vp_V [.null, .int 0, .int 0, .int 0, .null, .int 0, .int 0, .int 0, .int 0, .int 0, .int 0] j := fun j hj => by rcases (show j = 0 ∨ j = 1 ∨ j = 2 ∨ j = 3 ∨ j = 4 ∨ j = 5 ∨ j = 6 ∨ j = 7 ∨ j = 8 ∨ j = 9 ∨ j = 10 by omega) with rfl | rfl | rfl | rfl | rfl | rfl | rfl | rfl | rfl | rfl | rfl <;> rfl
theorem nwX5 : ∀ j, j < 9 → defaultValue (tyX5 j) = vp_V [.null, .int 0, .int 0, .int 0, .int 0, .int 0, .int 0, .int 0, .int 0] j := fun j hj => by rcases (show j = 0 ∨ j = 1 ∨ j = 2 ∨ j = 3 ∨ j = 4 ∨ j = 5 ∨ j = 6 ∨ j = 7 ∨ j = 8 by omega) with rfl | rfl | rfl | rfl | rfl | rfl | rfl | rfl | rfl <;> rfl
theorem nwX6 : ∀ j, j < 5 → defaultValue (tyX6 j) = vp_V [.null, .null, .null, .null, .int 0] j := fun j hj => by rcases (show j = 0 ∨ j = 1 ∨ j = 2 ∨ j = 3 ∨ j = 4 by omega) with rfl | rfl | rfl | rfl | rfl <;> rfl
theorem nwX7 : ∀ j, j < 8 → defaultValue (tyX7 j) = vp_V [.null, .null, .null, .null, .null, .null, .null, .int 0] j := fun j hj => by rcases (show j = 0 ∨ j = 1 ∨ j = 2 ∨ j = 3 ∨ j = 4 ∨ j = 5 ∨ j = 6 ∨ j = 7 by omega) with rfl | rfl | rfl | rfl | rfl | rfl | rfl | rfl <;> rfl
theorem nwX8 : ∀ j, j < 52 → defaultValue (tyX8 j) = vp_V [.null, .int 0, .int 0, .null, .int 0, .int 0, .int 0, .int 0, .int 0, .int 0, .int 0, .int 0, .int 0, .int 0, .int 0, .null, .null, .int 0, .int 0, .null, .null, .null, .null, .null, .int 0, .null, .null, .null, .null, .int 0, .int 0, .null, .null, .null, .null, .int 0, .int 0, .int 0, .int 0, .int 0, .int 0, .null, .null, .int 0, .int 0, .null, .int 0, .null, .null, .null, .null, .null] j := by
  intro j hj
  match j, hj with
  | 0, _ => rfl
  | 1, _ => rfl
  | 2, _ => rfl
  | 3, _ => rfl
  | 4, _ => rfl
  | 5, _ => rfl
  | 6, _ => rfl
  | 7, _ => rfl
  | 8, _ => rfl
  | 9, _ => rfl
  | 10, _ => rfl
  | 11, _ => rfl
  | 12, _ => rfl
  | 13, _ => rfl
  | 14, _ => rfl
  | 15, _ => rfl
  | 16, _ => rfl
  | 17, _ => rfl
  | 18, _ => rfl
  | 19, _ => rfl
  | 20, _ => rfl
  | 21, _ => rfl
  | 22, _ => rfl
  | 23, _ => rfl
  | 24, _ => rfl
  | 25, _ => rfl
  | 26, _ => rfl
  | 27, _ => rfl
  | 28, _ => rfl
  | 29, _ => rfl
  | 30, _ => rfl
  | 31, _ => rfl
  | 32, _ => rfl
  | 33, _ => rfl
  | 34, _ => rfl
  | 35, _ => rfl
  | 36, _ => rfl
  | 37, _ => rfl
  | 38, _ => rfl
  | 39, _ => rfl
  | 40, _ => rfl
  | 41, _ => rfl
  | 42, _ => rfl
  | 43, _ => rfl
  | 44, _ => rfl
  | 45, _ => rfl
  | 46, _ => rfl
  | 47, _ => rfl
  | 48, _ => rfl
  | 49, _ => rfl
  | 50, _ => rfl
  | 51, _ => rfl
  | k + 52, hj => exact absurd hj (by omega)
end
section
set_option maxHeartbeats 4000000 in
set_option maxRecDepth 100000 in
/-- BlueCoats$Givers(): its rows, all 0 -/
theorem k_X3_init (l : Launch) (D : va_G) (cB cI cJ cZ : ClassId) (sz : Nat) (h0 : Nat) : Met l yX3_init wsX3_init ({ frames := 1, cells := 2, slots := 16, locals := 28 } : Room) (cPre D (aTy cB cI cJ cZ) [(h0, .inr (3, [.null, .null, .int 0, .int 0]))] sz [.ref h0]) (va_Qv (fun (u : Nat → Nat) => True) (cB_ D (aTy cB cI cJ cZ) (va_A [(h0, .inr (3, [.null, .null, .int 0, .int 0]))] sz) (fun q => [(h0, .inr (3, [.ref (q 0), .ref (q 1), .int 0, .int 0])), (q 0, .inl (cI, 8, .inl (fun _ => 0))), (q 1, .inl (cI, 8, .inl (fun _ => 0)))])) (va_A [(h0, .inr (3, [.null, .null, .int 0, .int 0]))] sz)) 2 16 (va_A [(h0, .inr (3, [.null, .null, .int 0, .int 0]))] sz) := by
  refine Met.ofW (cc := cX3_init) (maxL := 1) (ret := none) (by decide) rfl ?_
  intro p e s m args below meth c s₁ B hml hv
  obtain ⟨rfl, hsz, hP, hK, hD0⟩ := hv
  have hx := B.exec
  have hb := B.bytes
  have hr := B.returns
  have hts := atoms_spec (ws := wsX3_init) B.pre
  have hown : s.vm.findClass RX3 = some m.cls := findClass_of_methodNamed B.named
  have hlocks := B.notSynchronized
  have hin : meth.name = "<init>" := (name_of_methodNamed B.named B.method).1
  subst hsz
  have hD := hD0.self (sz := s.heap.size)
  generalize hAe : va_A [(h0, .inr (3, [.null, .null, .int 0, .int 0]))] s.heap.size = A at hD ⊢
  have hA : ∀ q : Nat, s.heap.size ≤ q → A q := fun q h => by rw [← hAe]; exact Or.inr h
  have hS : va_S A s.heap s.heap [] := va_S.rf
  have hP : va_P D vwCl [(h0, .inr (3, [.null, .null, .int 0, .int 0]))] s.heap := hP
  have w_1 := hts (Cond.methodLink RX3 3 objectInit) (by decide +kernel)
  have w_2 := hts (Cond.instanceMethod objectInit) (by decide +kernel)
  have w_3 := hts (Cond.code objectInit ⟨#[0xb1]⟩ 1 none) (by decide +kernel)
  have w_4 := hts (Cond.arrayClass .int) (by decide +kernel)
  have w_5 : ∀ w ∈ wsX30, w ∈ wsX3_init := by decide +kernel
  have w_6 := hts (Cond.fieldLink RX3 11 "BlueCoats$Givers" "gave" "[I") (by decide +kernel)
  have w_7 := hts (Cond.fieldLink RX3 15 "BlueCoats$Givers" "supported" "[I") (by decide +kernel)
  have hl := lv_entry ([.ref h0]) (n := 1) (Nat.le_of_ble_eq_true rfl)
  rw [lg_entry_eq]
  generalize (lg_sl ([.ref h0]) ++ List.replicate (1 - (lg_sl ([.ref h0])).length) Slot.unset).toArray = ls at hl ⊢
  have hl : lv_has ls 1 [(0, .ref h0)] := hl
  refine lv_aload_n hx hb dX3_init_0 rfl (lv_at hl 0 rfl) ?_
  refine W.objInit hx hb hown w_1 w_2 w_3 rfl (by rw [hml]; exact hl.1) rfl dX3_init_1 (Nat.le_of_ble_eq_true rfl) (Nat.le_of_ble_eq_true rfl) ?_
  refine W.eq (g2 := F0 m 4 ls []) rfl ?_
  refine lv_aload_n hx hb dX3_init_4 rfl (lv_at hl 0 rfl) ?_
  refine lv_bipush (v := 8) hx hb dX3_init_5 (by decide) ?_
  refine sv_newa (atype := .int) (ty := .int) (cA := cI) (a0 := (8, .inl (fun _ => 0))) (N' := 8) hx hb w_4 rfl rfl hK hP hD hS hA 1 rfl (fun _ => rfl) (by decide) (by decide) (by decide) (Nat.le_of_ble_eq_true rfl) (Nat.le_of_ble_eq_true rfl) 1 8 rfl rfl dX3_init_7 (fun q_1 H hP hD hS => ?_)
  have hP : va_P D vwCl [(h0, .inr (3, [.null, .null, .int 0, .int 0])), (q_1, .inl (cI, 8, .inl (fun _ => 0)))] H := hP
  have hD : va_D A [(h0, .inr (3, [.null, .null, .int 0, .int 0])), (q_1, .inl (cI, 8, .inl (fun _ => 0)))] := hD
  refine va_putF (D := D) (ci := 3) (v := .ref q_1) (ty := .array .int) (C := RX3) (T := TX3) (N := 4) hx hb hts w_5 tyX3 tyX3_ok nmX3 hown hK hP hD hS 0 rfl rfl 0 (by decide) w_6 (fun _ h9 => h9) rfl hin rfl (by decide +kernel) rfl rfl (Nat.le_of_ble_eq_true rfl) dX3_init_9 (fun H locs hP hD hS => ?_)
  have hP : va_P D vwCl [(h0, .inr (3, [.ref q_1, .null, .int 0, .int 0])), (q_1, .inl (cI, 8, .inl (fun _ => 0)))] H := hP
  have hD : va_D A [(h0, .inr (3, [.ref q_1, .null, .int 0, .int 0])), (q_1, .inl (cI, 8, .inl (fun _ => 0)))] := hD
  refine lv_aload_n hx hb dX3_init_12 rfl (lv_at hl 0 rfl) ?_
  refine lv_bipush (v := 8) hx hb dX3_init_13 (by decide) ?_
  refine sv_newa (atype := .int) (ty := .int) (cA := cI) (a0 := (8, .inl (fun _ => 0))) (N' := 8) hx hb w_4 rfl rfl hK hP hD hS hA 1 rfl (fun _ => rfl) (by decide) (by decide) (by decide) (Nat.le_of_ble_eq_true rfl) (Nat.le_of_ble_eq_true rfl) 2 16 rfl rfl dX3_init_15 (fun q_2 H hP hD hS => ?_)
  have hP : va_P D vwCl [(h0, .inr (3, [.ref q_1, .null, .int 0, .int 0])), (q_1, .inl (cI, 8, .inl (fun _ => 0))), (q_2, .inl (cI, 8, .inl (fun _ => 0)))] H := hP
  have hD : va_D A [(h0, .inr (3, [.ref q_1, .null, .int 0, .int 0])), (q_1, .inl (cI, 8, .inl (fun _ => 0))), (q_2, .inl (cI, 8, .inl (fun _ => 0)))] := hD
  refine va_putF (D := D) (ci := 3) (v := .ref q_2) (ty := .array .int) (C := RX3) (T := TX3) (N := 4) hx hb hts w_5 tyX3 tyX3_ok nmX3 hown hK hP hD hS 0 rfl rfl 1 (by decide) w_7 (fun _ h9 => h9) rfl hin rfl (by decide +kernel) rfl rfl (Nat.le_of_ble_eq_true rfl) dX3_init_17 (fun H locs hP hD hS => ?_)
  have hP : va_P D vwCl [(h0, .inr (3, [.ref q_1, .ref q_2, .int 0, .int 0])), (q_1, .inl (cI, 8, .inl (fun _ => 0))), (q_2, .inl (cI, 8, .inl (fun _ => 0)))] H := hP
  have hD : va_D A [(h0, .inr (3, [.ref q_1, .ref q_2, .int 0, .int 0])), (q_1, .inl (cI, 8, .inl (fun _ => 0))), (q_2, .inl (cI, 8, .inl (fun _ => 0)))] := hD
  have hP9 := hP.sub (ws' := [(h0, .inr (3, [.ref q_1, .ref q_2, .int 0, .int 0])), (q_1, .inl (cI, 8, .inl (fun _ => 0))), (q_2, .inl (cI, 8, .inl (fun _ => 0)))]) [0, 1, 2] rfl
  have hD9 := hD.sub (ws' := [(h0, .inr (3, [.ref q_1, .ref q_2, .int 0, .int 0])), (q_1, .inl (cI, 8, .inl (fun _ => 0))), (q_2, .inl (cI, 8, .inl (fun _ => 0)))]) [0, 1, 2] (by decide) rfl
  exact W.vret hx hb hr (fun t ht hW => ⟨⟨(fun k => ([q_1, q_2] : List Nat).getD k 0), rfl, trivial, by rw [ht]; exact hP9, va_K.moved hW.alike hK, hD9⟩, hS.F ht⟩) hS.2.2 dX3_init_20

set_option maxHeartbeats 4000000 in
set_option maxRecDepth 100000 in
/-- BlueCoats$Children(): its rows, all 0 -/
theorem k_X1_init (l : Launch) (D : va_G) (cB cI cJ cZ : ClassId) (sz : Nat) (h0 : Nat) : Met l yX1_init wsX1_init ({ frames := 1, cells := 6, slots := 96, locals := 28 } : Room) (cPre D (aTy cB cI cJ cZ) [(h0, .inr (1, [.null, .null, .null, .null, .null, .null, .int 0]))] sz [.ref h0]) (va_Qv (fun (u : Nat → Nat) => True) (cB_ D (aTy cB cI cJ cZ) (va_A [(h0, .inr (1, [.null, .null, .null, .null, .null, .null, .int 0]))] sz) (fun q => [(h0, .inr (1, [.ref (q 0), .ref (q 1), .ref (q 2), .ref (q 3), .ref (q 4), .ref (q 5), .int 0])), (q 0, .inl (cI, 16, .inl (fun _ => 0))), (q 1, .inl (cI, 16, .inl (fun _ => 0))), (q 2, .inl (cI, 16, .inl (fun _ => 0))), (q 3, .inl (cI, 16, .inl (fun _ => 0))), (q 4, .inl (cI, 16, .inl (fun _ => 0))), (q 5, .inl (cI, 16, .inl (fun _ => 0)))])) (va_A [(h0, .inr (1, [.null, .null, .null, .null, .null, .null, .int 0]))] sz)) 6 96 (va_A [(h0, .inr (1, [.null, .null, .null, .null, .null, .null, .int 0]))] sz) := by
  refine Met.ofW (cc := cX1_init) (maxL := 1) (ret := none) (by decide) rfl ?_
  intro p e s m args below meth c s₁ B hml hv
  obtain ⟨rfl, hsz, hP, hK, hD0⟩ := hv
  have hx := B.exec
  have hb := B.bytes
  have hr := B.returns
  have hts := atoms_spec (ws := wsX1_init) B.pre
  have hown : s.vm.findClass RX1 = some m.cls := findClass_of_methodNamed B.named
  have hlocks := B.notSynchronized
  have hin : meth.name = "<init>" := (name_of_methodNamed B.named B.method).1
  subst hsz
  have hD := hD0.self (sz := s.heap.size)
  generalize hAe : va_A [(h0, .inr (1, [.null, .null, .null, .null, .null, .null, .int 0]))] s.heap.size = A at hD ⊢
  have hA : ∀ q : Nat, s.heap.size ≤ q → A q := fun q h => by rw [← hAe]; exact Or.inr h
  have hS : va_S A s.heap s.heap [] := va_S.rf
  have hP : va_P D vwCl [(h0, .inr (1, [.null, .null, .null, .null, .null, .null, .int 0]))] s.heap := hP
  have w_1 := hts (Cond.methodLink RX1 3 objectInit) (by decide +kernel)
  have w_2 := hts (Cond.instanceMethod objectInit) (by decide +kernel)
  have w_3 := hts (Cond.code objectInit ⟨#[0xb1]⟩ 1 none) (by decide +kernel)
  have w_4 := hts (Cond.arrayClass .int) (by decide +kernel)
  have w_5 : ∀ w ∈ wsX10, w ∈ wsX1_init := by decide +kernel
  have w_6 := hts (Cond.fieldLink RX1 11 "BlueCoats$Children" "age" "[I") (by decide +kernel)
  have w_7 := hts (Cond.fieldLink RX1 15 "BlueCoats$Children" "need" "[I") (by decide +kernel)
  have w_8 := hts (Cond.fieldLink RX1 18 "BlueCoats$Children" "size" "[I") (by decide +kernel)
  have w_9 := hts (Cond.fieldLink RX1 21 "BlueCoats$Children" "growth" "[I") (by decide +kernel)
  have w_10 := hts (Cond.fieldLink RX1 24 "BlueCoats$Children" "state" "[I") (by decide +kernel)
  have w_11 := hts (Cond.fieldLink RX1 27 "BlueCoats$Children" "coat" "[I") (by decide +kernel)
  have hl := lv_entry ([.ref h0]) (n := 1) (Nat.le_of_ble_eq_true rfl)
  rw [lg_entry_eq]
  generalize (lg_sl ([.ref h0]) ++ List.replicate (1 - (lg_sl ([.ref h0])).length) Slot.unset).toArray = ls at hl ⊢
  have hl : lv_has ls 1 [(0, .ref h0)] := hl
  refine lv_aload_n hx hb dX1_init_0 rfl (lv_at hl 0 rfl) ?_
  refine W.objInit hx hb hown w_1 w_2 w_3 rfl (by rw [hml]; exact hl.1) rfl dX1_init_1 (Nat.le_of_ble_eq_true rfl) (Nat.le_of_ble_eq_true rfl) ?_
  refine W.eq (g2 := F0 m 4 ls []) rfl ?_
  refine lv_aload_n hx hb dX1_init_4 rfl (lv_at hl 0 rfl) ?_
  refine lv_bipush (v := 16) hx hb dX1_init_5 (by decide) ?_
  refine sv_newa (atype := .int) (ty := .int) (cA := cI) (a0 := (16, .inl (fun _ => 0))) (N' := 16) hx hb w_4 rfl rfl hK hP hD hS hA 1 rfl (fun _ => rfl) (by decide) (by decide) (by decide) (Nat.le_of_ble_eq_true rfl) (Nat.le_of_ble_eq_true rfl) 1 16 rfl rfl dX1_init_7 (fun q_1 H hP hD hS => ?_)
  have hP : va_P D vwCl [(h0, .inr (1, [.null, .null, .null, .null, .null, .null, .int 0])), (q_1, .inl (cI, 16, .inl (fun _ => 0)))] H := hP
  have hD : va_D A [(h0, .inr (1, [.null, .null, .null, .null, .null, .null, .int 0])), (q_1, .inl (cI, 16, .inl (fun _ => 0)))] := hD
  refine va_putF (D := D) (ci := 1) (v := .ref q_1) (ty := .array .int) (C := RX1) (T := TX1) (N := 7) hx hb hts w_5 tyX1 tyX1_ok nmX1 hown hK hP hD hS 0 rfl rfl 0 (by decide) w_6 (fun _ h9 => h9) rfl hin rfl (by decide +kernel) rfl rfl (Nat.le_of_ble_eq_true rfl) dX1_init_9 (fun H locs hP hD hS => ?_)
  have hP : va_P D vwCl [(h0, .inr (1, [.ref q_1, .null, .null, .null, .null, .null, .int 0])), (q_1, .inl (cI, 16, .inl (fun _ => 0)))] H := hP
  have hD : va_D A [(h0, .inr (1, [.ref q_1, .null, .null, .null, .null, .null, .int 0])), (q_1, .inl (cI, 16, .inl (fun _ => 0)))] := hD
  refine lv_aload_n hx hb dX1_init_12 rfl (lv_at hl 0 rfl) ?_
  refine lv_bipush (v := 16) hx hb dX1_init_13 (by decide) ?_
  refine sv_newa (atype := .int) (ty := .int) (cA := cI) (a0 := (16, .inl (fun _ => 0))) (N' := 16) hx hb w_4 rfl rfl hK hP hD hS hA 1 rfl (fun _ => rfl) (by decide) (by decide) (by decide) (Nat.le_of_ble_eq_true rfl) (Nat.le_of_ble_eq_true rfl) 2 32 rfl rfl dX1_init_15 (fun q_2 H hP hD hS => ?_)
  have hP : va_P D vwCl [(h0, .inr (1, [.ref q_1, .null, .null, .null, .null, .null, .int 0])), (q_1, .inl (cI, 16, .inl (fun _ => 0))), (q_2, .inl (cI, 16, .inl (fun _ => 0)))] H := hP
  have hD : va_D A [(h0, .inr (1, [.ref q_1, .null, .null, .null, .null, .null, .int 0])), (q_1, .inl (cI, 16, .inl (fun _ => 0))), (q_2, .inl (cI, 16, .inl (fun _ => 0)))] := hD
  refine va_putF (D := D) (ci := 1) (v := .ref q_2) (ty := .array .int) (C := RX1) (T := TX1) (N := 7) hx hb hts w_5 tyX1 tyX1_ok nmX1 hown hK hP hD hS 0 rfl rfl 1 (by decide) w_7 (fun _ h9 => h9) rfl hin rfl (by decide +kernel) rfl rfl (Nat.le_of_ble_eq_true rfl) dX1_init_17 (fun H locs hP hD hS => ?_)
  have hP : va_P D vwCl [(h0, .inr (1, [.ref q_1, .ref q_2, .null, .null, .null, .null, .int 0])), (q_1, .inl (cI, 16, .inl (fun _ => 0))), (q_2, .inl (cI, 16, .inl (fun _ => 0)))] H := hP
  have hD : va_D A [(h0, .inr (1, [.ref q_1, .ref q_2, .null, .null, .null, .null, .int 0])), (q_1, .inl (cI, 16, .inl (fun _ => 0))), (q_2, .inl (cI, 16, .inl (fun _ => 0)))] := hD
  refine lv_aload_n hx hb dX1_init_20 rfl (lv_at hl 0 rfl) ?_
  refine lv_bipush (v := 16) hx hb dX1_init_21 (by decide) ?_
  refine sv_newa (atype := .int) (ty := .int) (cA := cI) (a0 := (16, .inl (fun _ => 0))) (N' := 16) hx hb w_4 rfl rfl hK hP hD hS hA 1 rfl (fun _ => rfl) (by decide) (by decide) (by decide) (Nat.le_of_ble_eq_true rfl) (Nat.le_of_ble_eq_true rfl) 3 48 rfl rfl dX1_init_23 (fun q_3 H hP hD hS => ?_)
  have hP : va_P D vwCl [(h0, .inr (1, [.ref q_1, .ref q_2, .null, .null, .null, .null, .int 0])), (q_1, .inl (cI, 16, .inl (fun _ => 0))), (q_2, .inl (cI, 16, .inl (fun _ => 0))), (q_3, .inl (cI, 16, .inl (fun _ => 0)))] H := hP
  have hD : va_D A [(h0, .inr (1, [.ref q_1, .ref q_2, .null, .null, .null, .null, .int 0])), (q_1, .inl (cI, 16, .inl (fun _ => 0))), (q_2, .inl (cI, 16, .inl (fun _ => 0))), (q_3, .inl (cI, 16, .inl (fun _ => 0)))] := hD
  refine va_putF (D := D) (ci := 1) (v := .ref q_3) (ty := .array .int) (C := RX1) (T := TX1) (N := 7) hx hb hts w_5 tyX1 tyX1_ok nmX1 hown hK hP hD hS 0 rfl rfl 2 (by decide) w_8 (fun _ h9 => h9) rfl hin rfl (by decide +kernel) rfl rfl (Nat.le_of_ble_eq_true rfl) dX1_init_25 (fun H locs hP hD hS => ?_)
  have hP : va_P D vwCl [(h0, .inr (1, [.ref q_1, .ref q_2, .ref q_3, .null, .null, .null, .int 0])), (q_1, .inl (cI, 16, .inl (fun _ => 0))), (q_2, .inl (cI, 16, .inl (fun _ => 0))), (q_3, .inl (cI, 16, .inl (fun _ => 0)))] H := hP
  have hD : va_D A [(h0, .inr (1, [.ref q_1, .ref q_2, .ref q_3, .null, .null, .null, .int 0])), (q_1, .inl (cI, 16, .inl (fun _ => 0))), (q_2, .inl (cI, 16, .inl (fun _ => 0))), (q_3, .inl (cI, 16, .inl (fun _ => 0)))] := hD
  refine lv_aload_n hx hb dX1_init_28 rfl (lv_at hl 0 rfl) ?_
  refine lv_bipush (v := 16) hx hb dX1_init_29 (by decide) ?_
  refine sv_newa (atype := .int) (ty := .int) (cA := cI) (a0 := (16, .inl (fun _ => 0))) (N' := 16) hx hb w_4 rfl rfl hK hP hD hS hA 1 rfl (fun _ => rfl) (by decide) (by decide) (by decide) (Nat.le_of_ble_eq_true rfl) (Nat.le_of_ble_eq_true rfl) 4 64 rfl rfl dX1_init_31 (fun q_4 H hP hD hS => ?_)
  have hP : va_P D vwCl [(h0, .inr (1, [.ref q_1, .ref q_2, .ref q_3, .null, .null, .null, .int 0])), (q_1, .inl (cI, 16, .inl (fun _ => 0))), (q_2, .inl (cI, 16, .inl (fun _ => 0))), (q_3, .inl (cI, 16, .inl (fun _ => 0))), (q_4, .inl (cI, 16, .inl (fun _ => 0)))] H := hP
  have hD : va_D A [(h0, .inr (1, [.ref q_1, .ref q_2, .ref q_3, .null, .null, .null, .int 0])), (q_1, .inl (cI, 16, .inl (fun _ => 0))), (q_2, .inl (cI, 16, .inl (fun _ => 0))), (q_3, .inl (cI, 16, .inl (fun _ => 0))), (q_4, .inl (cI, 16, .inl (fun _ => 0)))] := hD
  refine va_putF (D := D) (ci := 1) (v := .ref q_4) (ty := .array .int) (C := RX1) (T := TX1) (N := 7) hx hb hts w_5 tyX1 tyX1_ok nmX1 hown hK hP hD hS 0 rfl rfl 3 (by decide) w_9 (fun _ h9 => h9) rfl hin rfl (by decide +kernel) rfl rfl (Nat.le_of_ble_eq_true rfl) dX1_init_33 (fun H locs hP hD hS => ?_)
  have hP : va_P D vwCl [(h0, .inr (1, [.ref q_1, .ref q_2, .ref q_3, .ref q_4, .null, .null, .int 0])), (q_1, .inl (cI, 16, .inl (fun _ => 0))), (q_2, .inl (cI, 16, .inl (fun _ => 0))), (q_3, .inl (cI, 16, .inl (fun _ => 0))), (q_4, .inl (cI, 16, .inl (fun _ => 0)))] H := hP
  have hD : va_D A [(h0, .inr (1, [.ref q_1, .ref q_2, .ref q_3, .ref q_4, .null, .null, .int 0])), (q_1, .inl (cI, 16, .inl (fun _ => 0))), (q_2, .inl (cI, 16, .inl (fun _ => 0))), (q_3, .inl (cI, 16, .inl (fun _ => 0))), (q_4, .inl (cI, 16, .inl (fun _ => 0)))] := hD
  refine lv_aload_n hx hb dX1_init_36 rfl (lv_at hl 0 rfl) ?_
  refine lv_bipush (v := 16) hx hb dX1_init_37 (by decide) ?_
  refine sv_newa (atype := .int) (ty := .int) (cA := cI) (a0 := (16, .inl (fun _ => 0))) (N' := 16) hx hb w_4 rfl rfl hK hP hD hS hA 1 rfl (fun _ => rfl) (by decide) (by decide) (by decide) (Nat.le_of_ble_eq_true rfl) (Nat.le_of_ble_eq_true rfl) 5 80 rfl rfl dX1_init_39 (fun q_5 H hP hD hS => ?_)
  have hP : va_P D vwCl [(h0, .inr (1, [.ref q_1, .ref q_2, .ref q_3, .ref q_4, .null, .null, .int 0])), (q_1, .inl (cI, 16, .inl (fun _ => 0))), (q_2, .inl (cI, 16, .inl (fun _ => 0))), (q_3, .inl (cI, 16, .inl (fun _ => 0))), (q_4, .inl (cI, 16, .inl (fun _ => 0))), (q_5, .inl (cI, 16, .inl (fun _ => 0)))] H := hP
  have hD : va_D A [(h0, .inr (1, [.ref q_1, .ref q_2, .ref q_3, .ref q_4, .null, .null, .int 0])), (q_1, .inl (cI, 16, .inl (fun _ => 0))), (q_2, .inl (cI, 16, .inl (fun _ => 0))), (q_3, .inl (cI, 16, .inl (fun _ => 0))), (q_4, .inl (cI, 16, .inl (fun _ => 0))), (q_5, .inl (cI, 16, .inl (fun _ => 0)))] := hD
  refine va_putF (D := D) (ci := 1) (v := .ref q_5) (ty := .array .int) (C := RX1) (T := TX1) (N := 7) hx hb hts w_5 tyX1 tyX1_ok nmX1 hown hK hP hD hS 0 rfl rfl 4 (by decide) w_10 (fun _ h9 => h9) rfl hin rfl (by decide +kernel) rfl rfl (Nat.le_of_ble_eq_true rfl) dX1_init_41 (fun H locs hP hD hS => ?_)
  have hP : va_P D vwCl [(h0, .inr (1, [.ref q_1, .ref q_2, .ref q_3, .ref q_4, .ref q_5, .null, .int 0])), (q_1, .inl (cI, 16, .inl (fun _ => 0))), (q_2, .inl (cI, 16, .inl (fun _ => 0))), (q_3, .inl (cI, 16, .inl (fun _ => 0))), (q_4, .inl (cI, 16, .inl (fun _ => 0))), (q_5, .inl (cI, 16, .inl (fun _ => 0)))] H := hP
  have hD : va_D A [(h0, .inr (1, [.ref q_1, .ref q_2, .ref q_3, .ref q_4, .ref q_5, .null, .int 0])), (q_1, .inl (cI, 16, .inl (fun _ => 0))), (q_2, .inl (cI, 16, .inl (fun _ => 0))), (q_3, .inl (cI, 16, .inl (fun _ => 0))), (q_4, .inl (cI, 16, .inl (fun _ => 0))), (q_5, .inl (cI, 16, .inl (fun _ => 0)))] := hD
  refine lv_aload_n hx hb dX1_init_44 rfl (lv_at hl 0 rfl) ?_
  refine lv_bipush (v := 16) hx hb dX1_init_45 (by decide) ?_
  refine sv_newa (atype := .int) (ty := .int) (cA := cI) (a0 := (16, .inl (fun _ => 0))) (N' := 16) hx hb w_4 rfl rfl hK hP hD hS hA 1 rfl (fun _ => rfl) (by decide) (by decide) (by decide) (Nat.le_of_ble_eq_true rfl) (Nat.le_of_ble_eq_true rfl) 6 96 rfl rfl dX1_init_47 (fun q_6 H hP hD hS => ?_)
  have hP : va_P D vwCl [(h0, .inr (1, [.ref q_1, .ref q_2, .ref q_3, .ref q_4, .ref q_5, .null, .int 0])), (q_1, .inl (cI, 16, .inl (fun _ => 0))), (q_2, .inl (cI, 16, .inl (fun _ => 0))), (q_3, .inl (cI, 16, .inl (fun _ => 0))), (q_4, .inl (cI, 16, .inl (fun _ => 0))), (q_5, .inl (cI, 16, .inl (fun _ => 0))), (q_6, .inl (cI, 16, .inl (fun _ => 0)))] H := hP
  have hD : va_D A [(h0, .inr (1, [.ref q_1, .ref q_2, .ref q_3, .ref q_4, .ref q_5, .null, .int 0])), (q_1, .inl (cI, 16, .inl (fun _ => 0))), (q_2, .inl (cI, 16, .inl (fun _ => 0))), (q_3, .inl (cI, 16, .inl (fun _ => 0))), (q_4, .inl (cI, 16, .inl (fun _ => 0))), (q_5, .inl (cI, 16, .inl (fun _ => 0))), (q_6, .inl (cI, 16, .inl (fun _ => 0)))] := hD
  refine va_putF (D := D) (ci := 1) (v := .ref q_6) (ty := .array .int) (C := RX1) (T := TX1) (N := 7) hx hb hts w_5 tyX1 tyX1_ok nmX1 hown hK hP hD hS 0 rfl rfl 5 (by decide) w_11 (fun _ h9 => h9) rfl hin rfl (by decide +kernel) rfl rfl (Nat.le_of_ble_eq_true rfl) dX1_init_49 (fun H locs hP hD hS => ?_)
  have hP : va_P D vwCl [(h0, .inr (1, [.ref q_1, .ref q_2, .ref q_3, .ref q_4, .ref q_5, .ref q_6, .int 0])), (q_1, .inl (cI, 16, .inl (fun _ => 0))), (q_2, .inl (cI, 16, .inl (fun _ => 0))), (q_3, .inl (cI, 16, .inl (fun _ => 0))), (q_4, .inl (cI, 16, .inl (fun _ => 0))), (q_5, .inl (cI, 16, .inl (fun _ => 0))), (q_6, .inl (cI, 16, .inl (fun _ => 0)))] H := hP
  have hD : va_D A [(h0, .inr (1, [.ref q_1, .ref q_2, .ref q_3, .ref q_4, .ref q_5, .ref q_6, .int 0])), (q_1, .inl (cI, 16, .inl (fun _ => 0))), (q_2, .inl (cI, 16, .inl (fun _ => 0))), (q_3, .inl (cI, 16, .inl (fun _ => 0))), (q_4, .inl (cI, 16, .inl (fun _ => 0))), (q_5, .inl (cI, 16, .inl (fun _ => 0))), (q_6, .inl (cI, 16, .inl (fun _ => 0)))] := hD
  have hP9 := hP.sub (ws' := [(h0, .inr (1, [.ref q_1, .ref q_2, .ref q_3, .ref q_4, .ref q_5, .ref q_6, .int 0])), (q_1, .inl (cI, 16, .inl (fun _ => 0))), (q_2, .inl (cI, 16, .inl (fun _ => 0))), (q_3, .inl (cI, 16, .inl (fun _ => 0))), (q_4, .inl (cI, 16, .inl (fun _ => 0))), (q_5, .inl (cI, 16, .inl (fun _ => 0))), (q_6, .inl (cI, 16, .inl (fun _ => 0)))]) [0, 1, 2, 3, 4, 5, 6] rfl
  have hD9 := hD.sub (ws' := [(h0, .inr (1, [.ref q_1, .ref q_2, .ref q_3, .ref q_4, .ref q_5, .ref q_6, .int 0])), (q_1, .inl (cI, 16, .inl (fun _ => 0))), (q_2, .inl (cI, 16, .inl (fun _ => 0))), (q_3, .inl (cI, 16, .inl (fun _ => 0))), (q_4, .inl (cI, 16, .inl (fun _ => 0))), (q_5, .inl (cI, 16, .inl (fun _ => 0))), (q_6, .inl (cI, 16, .inl (fun _ => 0)))]) [0, 1, 2, 3, 4, 5, 6] (by decide) rfl
  exact W.vret hx hb hr (fun t ht hW => ⟨⟨(fun k => ([q_1, q_2, q_3, q_4, q_5, q_6] : List Nat).getD k 0), rfl, trivial, by rw [ht]; exact hP9, va_K.moved hW.alike hK, hD9⟩, hS.F ht⟩) hS.2.2 dX1_init_52

set_option maxHeartbeats 4000000 in
set_option maxRecDepth 100000 in
/-- BlueCoats$Wardrobe(): its rows, all 0 -/
theorem k_X6_init (l : Launch) (D : va_G) (cB cI cJ cZ : ClassId) (sz : Nat) (h0 : Nat) : Met l yX6_init wsX6_init ({ frames := 1, cells := 4, slots := 160, locals := 28 } : Room) (cPre D (aTy cB cI cJ cZ) [(h0, .inr (6, [.null, .null, .null, .null, .int 0]))] sz [.ref h0]) (va_Qv (fun (u : Nat → Nat) => True) (cB_ D (aTy cB cI cJ cZ) (va_A [(h0, .inr (6, [.null, .null, .null, .null, .int 0]))] sz) (fun q => [(h0, .inr (6, [.ref (q 0), .ref (q 1), .ref (q 2), .ref (q 3), .int 0])), (q 0, .inl (cI, 40, .inl (fun _ => 0))), (q 1, .inl (cI, 40, .inl (fun _ => 0))), (q 2, .inl (cZ, 40, .inl (fun _ => 0))), (q 3, .inl (cI, 40, .inl (fun _ => 0)))])) (va_A [(h0, .inr (6, [.null, .null, .null, .null, .int 0]))] sz)) 4 160 (va_A [(h0, .inr (6, [.null, .null, .null, .null, .int 0]))] sz) := by
  refine Met.ofW (cc := cX6_init) (maxL := 1) (ret := none) (by decide) rfl ?_
  intro p e s m args below meth c s₁ B hml hv
  obtain ⟨rfl, hsz, hP, hK, hD0⟩ := hv
  have hx := B.exec
  have hb := B.bytes
  have hr := B.returns
  have hts := atoms_spec (ws := wsX6_init) B.pre
  have hown : s.vm.findClass RX6 = some m.cls := findClass_of_methodNamed B.named
  have hlocks := B.notSynchronized
  have hin : meth.name = "<init>" := (name_of_methodNamed B.named B.method).1
  subst hsz
  have hD := hD0.self (sz := s.heap.size)
  generalize hAe : va_A [(h0, .inr (6, [.null, .null, .null, .null, .int 0]))] s.heap.size = A at hD ⊢
  have hA : ∀ q : Nat, s.heap.size ≤ q → A q := fun q h => by rw [← hAe]; exact Or.inr h
  have hS : va_S A s.heap s.heap [] := va_S.rf
  have hP : va_P D vwCl [(h0, .inr (6, [.null, .null, .null, .null, .int 0]))] s.heap := hP
  have w_1 := hts (Cond.methodLink RX6 3 objectInit) (by decide +kernel)
  have w_2 := hts (Cond.instanceMethod objectInit) (by decide +kernel)
  have w_3 := hts (Cond.code objectInit ⟨#[0xb1]⟩ 1 none) (by decide +kernel)
  have w_4 := hts (Cond.arrayClass .int) (by decide +kernel)
  have w_5 : ∀ w ∈ wsX60, w ∈ wsX6_init := by decide +kernel
  have w_6 := hts (Cond.fieldLink RX6 11 "BlueCoats$Wardrobe" "size" "[I") (by decide +kernel)
  have w_7 := hts (Cond.fieldLink RX6 15 "BlueCoats$Wardrobe" "worn" "[I") (by decide +kernel)
  have w_8 := hts (Cond.arrayClass .boolean) (by decide +kernel)
  have w_9 := hts (Cond.fieldLink RX6 18 "BlueCoats$Wardrobe" "gone" "[Z") (by decide +kernel)
  have w_10 := hts (Cond.fieldLink RX6 22 "BlueCoats$Wardrobe" "wearer" "[I") (by decide +kernel)
  have hl := lv_entry ([.ref h0]) (n := 1) (Nat.le_of_ble_eq_true rfl)
  rw [lg_entry_eq]
  generalize (lg_sl ([.ref h0]) ++ List.replicate (1 - (lg_sl ([.ref h0])).length) Slot.unset).toArray = ls at hl ⊢
  have hl : lv_has ls 1 [(0, .ref h0)] := hl
  refine lv_aload_n hx hb dX6_init_0 rfl (lv_at hl 0 rfl) ?_
  refine W.objInit hx hb hown w_1 w_2 w_3 rfl (by rw [hml]; exact hl.1) rfl dX6_init_1 (Nat.le_of_ble_eq_true rfl) (Nat.le_of_ble_eq_true rfl) ?_
  refine W.eq (g2 := F0 m 4 ls []) rfl ?_
  refine lv_aload_n hx hb dX6_init_4 rfl (lv_at hl 0 rfl) ?_
  refine lv_bipush (v := 40) hx hb dX6_init_5 (by decide) ?_
  refine sv_newa (atype := .int) (ty := .int) (cA := cI) (a0 := (40, .inl (fun _ => 0))) (N' := 40) hx hb w_4 rfl rfl hK hP hD hS hA 1 rfl (fun _ => rfl) (by decide) (by decide) (by decide) (Nat.le_of_ble_eq_true rfl) (Nat.le_of_ble_eq_true rfl) 1 40 rfl rfl dX6_init_7 (fun q_1 H hP hD hS => ?_)
  have hP : va_P D vwCl [(h0, .inr (6, [.null, .null, .null, .null, .int 0])), (q_1, .inl (cI, 40, .inl (fun _ => 0)))] H := hP
  have hD : va_D A [(h0, .inr (6, [.null, .null, .null, .null, .int 0])), (q_1, .inl (cI, 40, .inl (fun _ => 0)))] := hD
  refine va_putF (D := D) (ci := 6) (v := .ref q_1) (ty := .array .int) (C := RX6) (T := TX6) (N := 5) hx hb hts w_5 tyX6 tyX6_ok nmX6 hown hK hP hD hS 0 rfl rfl 0 (by decide) w_6 (fun _ h9 => h9) rfl hin rfl (by decide +kernel) rfl rfl (Nat.le_of_ble_eq_true rfl) dX6_init_9 (fun H locs hP hD hS => ?_)
  have hP : va_P D vwCl [(h0, .inr (6, [.ref q_1, .null, .null, .null, .int 0])), (q_1, .inl (cI, 40, .inl (fun _ => 0)))] H := hP
  have hD : va_D A [(h0, .inr (6, [.ref q_1, .null, .null, .null, .int 0])), (q_1, .inl (cI, 40, .inl (fun _ => 0)))] := hD
  refine lv_aload_n hx hb dX6_init_12 rfl (lv_at hl 0 rfl) ?_
  refine lv_bipush (v := 40) hx hb dX6_init_13 (by decide) ?_
  refine sv_newa (atype := .int) (ty := .int) (cA := cI) (a0 := (40, .inl (fun _ => 0))) (N' := 40) hx hb w_4 rfl rfl hK hP hD hS hA 1 rfl (fun _ => rfl) (by decide) (by decide) (by decide) (Nat.le_of_ble_eq_true rfl) (Nat.le_of_ble_eq_true rfl) 2 80 rfl rfl dX6_init_15 (fun q_2 H hP hD hS => ?_)
  have hP : va_P D vwCl [(h0, .inr (6, [.ref q_1, .null, .null, .null, .int 0])), (q_1, .inl (cI, 40, .inl (fun _ => 0))), (q_2, .inl (cI, 40, .inl (fun _ => 0)))] H := hP
  have hD : va_D A [(h0, .inr (6, [.ref q_1, .null, .null, .null, .int 0])), (q_1, .inl (cI, 40, .inl (fun _ => 0))), (q_2, .inl (cI, 40, .inl (fun _ => 0)))] := hD
  refine va_putF (D := D) (ci := 6) (v := .ref q_2) (ty := .array .int) (C := RX6) (T := TX6) (N := 5) hx hb hts w_5 tyX6 tyX6_ok nmX6 hown hK hP hD hS 0 rfl rfl 1 (by decide) w_7 (fun _ h9 => h9) rfl hin rfl (by decide +kernel) rfl rfl (Nat.le_of_ble_eq_true rfl) dX6_init_17 (fun H locs hP hD hS => ?_)
  have hP : va_P D vwCl [(h0, .inr (6, [.ref q_1, .ref q_2, .null, .null, .int 0])), (q_1, .inl (cI, 40, .inl (fun _ => 0))), (q_2, .inl (cI, 40, .inl (fun _ => 0)))] H := hP
  have hD : va_D A [(h0, .inr (6, [.ref q_1, .ref q_2, .null, .null, .int 0])), (q_1, .inl (cI, 40, .inl (fun _ => 0))), (q_2, .inl (cI, 40, .inl (fun _ => 0)))] := hD
  refine lv_aload_n hx hb dX6_init_20 rfl (lv_at hl 0 rfl) ?_
  refine lv_bipush (v := 40) hx hb dX6_init_21 (by decide) ?_
  refine sv_newa (atype := .boolean) (ty := .boolean) (cA := cZ) (a0 := (40, .inl (fun _ => 0))) (N' := 40) hx hb w_8 rfl rfl hK hP hD hS hA 3 rfl (fun _ => rfl) (by decide) (by decide) (by decide) (Nat.le_of_ble_eq_true rfl) (Nat.le_of_ble_eq_true rfl) 3 120 rfl rfl dX6_init_23 (fun q_3 H hP hD hS => ?_)
  have hP : va_P D vwCl [(h0, .inr (6, [.ref q_1, .ref q_2, .null, .null, .int 0])), (q_1, .inl (cI, 40, .inl (fun _ => 0))), (q_2, .inl (cI, 40, .inl (fun _ => 0))), (q_3, .inl (cZ, 40, .inl (fun _ => 0)))] H := hP
  have hD : va_D A [(h0, .inr (6, [.ref q_1, .ref q_2, .null, .null, .int 0])), (q_1, .inl (cI, 40, .inl (fun _ => 0))), (q_2, .inl (cI, 40, .inl (fun _ => 0))), (q_3, .inl (cZ, 40, .inl (fun _ => 0)))] := hD
  refine va_putF (D := D) (ci := 6) (v := .ref q_3) (ty := .array .boolean) (C := RX6) (T := TX6) (N := 5) hx hb hts w_5 tyX6 tyX6_ok nmX6 hown hK hP hD hS 0 rfl rfl 2 (by decide) w_9 (fun _ h9 => h9) rfl hin rfl (by decide +kernel) rfl rfl (Nat.le_of_ble_eq_true rfl) dX6_init_25 (fun H locs hP hD hS => ?_)
  have hP : va_P D vwCl [(h0, .inr (6, [.ref q_1, .ref q_2, .ref q_3, .null, .int 0])), (q_1, .inl (cI, 40, .inl (fun _ => 0))), (q_2, .inl (cI, 40, .inl (fun _ => 0))), (q_3, .inl (cZ, 40, .inl (fun _ => 0)))] H := hP
  have hD : va_D A [(h0, .inr (6, [.ref q_1, .ref q_2, .ref q_3, .null, .int 0])), (q_1, .inl (cI, 40, .inl (fun _ => 0))), (q_2, .inl (cI, 40, .inl (fun _ => 0))), (q_3, .inl (cZ, 40, .inl (fun _ => 0)))] := hD
  refine lv_aload_n hx hb dX6_init_28 rfl (lv_at hl 0 rfl) ?_
  refine lv_bipush (v := 40) hx hb dX6_init_29 (by decide) ?_
  refine sv_newa (atype := .int) (ty := .int) (cA := cI) (a0 := (40, .inl (fun _ => 0))) (N' := 40) hx hb w_4 rfl rfl hK hP hD hS hA 1 rfl (fun _ => rfl) (by decide) (by decide) (by decide) (Nat.le_of_ble_eq_true rfl) (Nat.le_of_ble_eq_true rfl) 4 160 rfl rfl dX6_init_31 (fun q_4 H hP hD hS => ?_)
  have hP : va_P D vwCl [(h0, .inr (6, [.ref q_1, .ref q_2, .ref q_3, .null, .int 0])), (q_1, .inl (cI, 40, .inl (fun _ => 0))), (q_2, .inl (cI, 40, .inl (fun _ => 0))), (q_3, .inl (cZ, 40, .inl (fun _ => 0))), (q_4, .inl (cI, 40, .inl (fun _ => 0)))] H := hP
  have hD : va_D A [(h0, .inr (6, [.ref q_1, .ref q_2, .ref q_3, .null, .int 0])), (q_1, .inl (cI, 40, .inl (fun _ => 0))), (q_2, .inl (cI, 40, .inl (fun _ => 0))), (q_3, .inl (cZ, 40, .inl (fun _ => 0))), (q_4, .inl (cI, 40, .inl (fun _ => 0)))] := hD
  refine va_putF (D := D) (ci := 6) (v := .ref q_4) (ty := .array .int) (C := RX6) (T := TX6) (N := 5) hx hb hts w_5 tyX6 tyX6_ok nmX6 hown hK hP hD hS 0 rfl rfl 3 (by decide) w_10 (fun _ h9 => h9) rfl hin rfl (by decide +kernel) rfl rfl (Nat.le_of_ble_eq_true rfl) dX6_init_33 (fun H locs hP hD hS => ?_)
  have hP : va_P D vwCl [(h0, .inr (6, [.ref q_1, .ref q_2, .ref q_3, .ref q_4, .int 0])), (q_1, .inl (cI, 40, .inl (fun _ => 0))), (q_2, .inl (cI, 40, .inl (fun _ => 0))), (q_3, .inl (cZ, 40, .inl (fun _ => 0))), (q_4, .inl (cI, 40, .inl (fun _ => 0)))] H := hP
  have hD : va_D A [(h0, .inr (6, [.ref q_1, .ref q_2, .ref q_3, .ref q_4, .int 0])), (q_1, .inl (cI, 40, .inl (fun _ => 0))), (q_2, .inl (cI, 40, .inl (fun _ => 0))), (q_3, .inl (cZ, 40, .inl (fun _ => 0))), (q_4, .inl (cI, 40, .inl (fun _ => 0)))] := hD
  have hP9 := hP.sub (ws' := [(h0, .inr (6, [.ref q_1, .ref q_2, .ref q_3, .ref q_4, .int 0])), (q_1, .inl (cI, 40, .inl (fun _ => 0))), (q_2, .inl (cI, 40, .inl (fun _ => 0))), (q_3, .inl (cZ, 40, .inl (fun _ => 0))), (q_4, .inl (cI, 40, .inl (fun _ => 0)))]) [0, 1, 2, 3, 4] rfl
  have hD9 := hD.sub (ws' := [(h0, .inr (6, [.ref q_1, .ref q_2, .ref q_3, .ref q_4, .int 0])), (q_1, .inl (cI, 40, .inl (fun _ => 0))), (q_2, .inl (cI, 40, .inl (fun _ => 0))), (q_3, .inl (cZ, 40, .inl (fun _ => 0))), (q_4, .inl (cI, 40, .inl (fun _ => 0)))]) [0, 1, 2, 3, 4] (by decide) rfl
  exact W.vret hx hb hr (fun t ht hW => ⟨⟨(fun k => ([q_1, q_2, q_3, q_4] : List Nat).getD k 0), rfl, trivial, by rw [ht]; exact hP9, va_K.moved hW.alike hK, hD9⟩, hS.F ht⟩) hS.2.2 dX6_init_36

set_option maxHeartbeats 4000000 in
set_option maxRecDepth 100000 in
/-- BlueCoats$Dressing(): its rows, all 0 -/
theorem k_X2_init (l : Launch) (D : va_G) (cB cI cJ cZ : ClassId) (sz : Nat) (h0 : Nat) : Met l yX2_init wsX2_init ({ frames := 1, cells := 4, slots := 280, locals := 28 } : Room) (cPre D (aTy cB cI cJ cZ) [(h0, .inr (2, [.null, .null, .int 0, .null, .null, .int 0]))] sz [.ref h0]) (va_Qv (fun (u : Nat → Nat) => True) (cB_ D (aTy cB cI cJ cZ) (va_A [(h0, .inr (2, [.null, .null, .int 0, .null, .null, .int 0]))] sz) (fun q => [(h0, .inr (2, [.ref (q 0), .ref (q 1), .int 0, .ref (q 2), .ref (q 3), .int 0])), (q 0, .inl (cI, 8, .inl (fun _ => 0))), (q 1, .inl (cI, 8, .inl (fun _ => 0))), (q 2, .inl (cI, 8, .inl (fun _ => 0))), (q 3, .inl (cJ, 256, .inr (.inl (fun _ => 0))))])) (va_A [(h0, .inr (2, [.null, .null, .int 0, .null, .null, .int 0]))] sz)) 4 280 (va_A [(h0, .inr (2, [.null, .null, .int 0, .null, .null, .int 0]))] sz) := by
  refine Met.ofW (cc := cX2_init) (maxL := 1) (ret := none) (by decide) rfl ?_
  intro p e s m args below meth c s₁ B hml hv
  obtain ⟨rfl, hsz, hP, hK, hD0⟩ := hv
  have hx := B.exec
  have hb := B.bytes
  have hr := B.returns
  have hts := atoms_spec (ws := wsX2_init) B.pre
  have hown : s.vm.findClass RX2 = some m.cls := findClass_of_methodNamed B.named
  have hlocks := B.notSynchronized
  have hin : meth.name = "<init>" := (name_of_methodNamed B.named B.method).1
  subst hsz
  have hD := hD0.self (sz := s.heap.size)
  generalize hAe : va_A [(h0, .inr (2, [.null, .null, .int 0, .null, .null, .int 0]))] s.heap.size = A at hD ⊢
  have hA : ∀ q : Nat, s.heap.size ≤ q → A q := fun q h => by rw [← hAe]; exact Or.inr h
  have hS : va_S A s.heap s.heap [] := va_S.rf
  have hP : va_P D vwCl [(h0, .inr (2, [.null, .null, .int 0, .null, .null, .int 0]))] s.heap := hP
  have w_1 := hts (Cond.methodLink RX2 3 objectInit) (by decide +kernel)
  have w_2 := hts (Cond.instanceMethod objectInit) (by decide +kernel)
  have w_3 := hts (Cond.code objectInit ⟨#[0xb1]⟩ 1 none) (by decide +kernel)
  have w_4 := hts (Cond.arrayClass .int) (by decide +kernel)
  have w_5 : ∀ w ∈ wsX20, w ∈ wsX2_init := by decide +kernel
  have w_6 := hts (Cond.fieldLink RX2 11 "BlueCoats$Dressing" "guest" "[I") (by decide +kernel)
  have w_7 := hts (Cond.fieldLink RX2 15 "BlueCoats$Dressing" "given" "[I") (by decide +kernel)
  have w_8 := hts (Cond.fieldLink RX2 18 "BlueCoats$Dressing" "size" "[I") (by decide +kernel)
  have w_9 := hts (Cond.arrayClass .long) (by decide +kernel)
  have w_10 := hts (Cond.fieldLink RX2 21 "BlueCoats$Dressing" "fitting" "[J") (by decide +kernel)
  have hl := lv_entry ([.ref h0]) (n := 1) (Nat.le_of_ble_eq_true rfl)
  rw [lg_entry_eq]
  generalize (lg_sl ([.ref h0]) ++ List.replicate (1 - (lg_sl ([.ref h0])).length) Slot.unset).toArray = ls at hl ⊢
  have hl : lv_has ls 1 [(0, .ref h0)] := hl
  refine lv_aload_n hx hb dX2_init_0 rfl (lv_at hl 0 rfl) ?_
  refine W.objInit hx hb hown w_1 w_2 w_3 rfl (by rw [hml]; exact hl.1) rfl dX2_init_1 (Nat.le_of_ble_eq_true rfl) (Nat.le_of_ble_eq_true rfl) ?_
  refine W.eq (g2 := F0 m 4 ls []) rfl ?_
  refine lv_aload_n hx hb dX2_init_4 rfl (lv_at hl 0 rfl) ?_
  refine lv_bipush (v := 8) hx hb dX2_init_5 (by decide) ?_
  refine sv_newa (atype := .int) (ty := .int) (cA := cI) (a0 := (8, .inl (fun _ => 0))) (N' := 8) hx hb w_4 rfl rfl hK hP hD hS hA 1 rfl (fun _ => rfl) (by decide) (by decide) (by decide) (Nat.le_of_ble_eq_true rfl) (Nat.le_of_ble_eq_true rfl) 1 8 rfl rfl dX2_init_7 (fun q_1 H hP hD hS => ?_)
  have hP : va_P D vwCl [(h0, .inr (2, [.null, .null, .int 0, .null, .null, .int 0])), (q_1, .inl (cI, 8, .inl (fun _ => 0)))] H := hP
  have hD : va_D A [(h0, .inr (2, [.null, .null, .int 0, .null, .null, .int 0])), (q_1, .inl (cI, 8, .inl (fun _ => 0)))] := hD
  refine va_putF (D := D) (ci := 2) (v := .ref q_1) (ty := .array .int) (C := RX2) (T := TX2) (N := 6) hx hb hts w_5 tyX2 tyX2_ok nmX2 hown hK hP hD hS 0 rfl rfl 0 (by decide) w_6 (fun _ h9 => h9) rfl hin rfl (by decide +kernel) rfl rfl (Nat.le_of_ble_eq_true rfl) dX2_init_9 (fun H locs hP hD hS => ?_)
  have hP : va_P D vwCl [(h0, .inr (2, [.ref q_1, .null, .int 0, .null, .null, .int 0])), (q_1, .inl (cI, 8, .inl (fun _ => 0)))] H := hP
  have hD : va_D A [(h0, .inr (2, [.ref q_1, .null, .int 0, .null, .null, .int 0])), (q_1, .inl (cI, 8, .inl (fun _ => 0)))] := hD
  refine lv_aload_n hx hb dX2_init_12 rfl (lv_at hl 0 rfl) ?_
  refine lv_bipush (v := 8) hx hb dX2_init_13 (by decide) ?_
  refine sv_newa (atype := .int) (ty := .int) (cA := cI) (a0 := (8, .inl (fun _ => 0))) (N' := 8) hx hb w_4 rfl rfl hK hP hD hS hA 1 rfl (fun _ => rfl) (by decide) (by decide) (by decide) (Nat.le_of_ble_eq_true rfl) (Nat.le_of_ble_eq_true rfl) 2 16 rfl rfl dX2_init_15 (fun q_2 H hP hD hS => ?_)
  have hP : va_P D vwCl [(h0, .inr (2, [.ref q_1, .null, .int 0, .null, .null, .int 0])), (q_1, .inl (cI, 8, .inl (fun _ => 0))), (q_2, .inl (cI, 8, .inl (fun _ => 0)))] H := hP
  have hD : va_D A [(h0, .inr (2, [.ref q_1, .null, .int 0, .null, .null, .int 0])), (q_1, .inl (cI, 8, .inl (fun _ => 0))), (q_2, .inl (cI, 8, .inl (fun _ => 0)))] := hD
  refine va_putF (D := D) (ci := 2) (v := .ref q_2) (ty := .array .int) (C := RX2) (T := TX2) (N := 6) hx hb hts w_5 tyX2 tyX2_ok nmX2 hown hK hP hD hS 0 rfl rfl 1 (by decide) w_7 (fun _ h9 => h9) rfl hin rfl (by decide +kernel) rfl rfl (Nat.le_of_ble_eq_true rfl) dX2_init_17 (fun H locs hP hD hS => ?_)
  have hP : va_P D vwCl [(h0, .inr (2, [.ref q_1, .ref q_2, .int 0, .null, .null, .int 0])), (q_1, .inl (cI, 8, .inl (fun _ => 0))), (q_2, .inl (cI, 8, .inl (fun _ => 0)))] H := hP
  have hD : va_D A [(h0, .inr (2, [.ref q_1, .ref q_2, .int 0, .null, .null, .int 0])), (q_1, .inl (cI, 8, .inl (fun _ => 0))), (q_2, .inl (cI, 8, .inl (fun _ => 0)))] := hD
  refine lv_aload_n hx hb dX2_init_20 rfl (lv_at hl 0 rfl) ?_
  refine lv_bipush (v := 8) hx hb dX2_init_21 (by decide) ?_
  refine sv_newa (atype := .int) (ty := .int) (cA := cI) (a0 := (8, .inl (fun _ => 0))) (N' := 8) hx hb w_4 rfl rfl hK hP hD hS hA 1 rfl (fun _ => rfl) (by decide) (by decide) (by decide) (Nat.le_of_ble_eq_true rfl) (Nat.le_of_ble_eq_true rfl) 3 24 rfl rfl dX2_init_23 (fun q_3 H hP hD hS => ?_)
  have hP : va_P D vwCl [(h0, .inr (2, [.ref q_1, .ref q_2, .int 0, .null, .null, .int 0])), (q_1, .inl (cI, 8, .inl (fun _ => 0))), (q_2, .inl (cI, 8, .inl (fun _ => 0))), (q_3, .inl (cI, 8, .inl (fun _ => 0)))] H := hP
  have hD : va_D A [(h0, .inr (2, [.ref q_1, .ref q_2, .int 0, .null, .null, .int 0])), (q_1, .inl (cI, 8, .inl (fun _ => 0))), (q_2, .inl (cI, 8, .inl (fun _ => 0))), (q_3, .inl (cI, 8, .inl (fun _ => 0)))] := hD
  refine va_putF (D := D) (ci := 2) (v := .ref q_3) (ty := .array .int) (C := RX2) (T := TX2) (N := 6) hx hb hts w_5 tyX2 tyX2_ok nmX2 hown hK hP hD hS 0 rfl rfl 3 (by decide) w_8 (fun _ h9 => h9) rfl hin rfl (by decide +kernel) rfl rfl (Nat.le_of_ble_eq_true rfl) dX2_init_25 (fun H locs hP hD hS => ?_)
  have hP : va_P D vwCl [(h0, .inr (2, [.ref q_1, .ref q_2, .int 0, .ref q_3, .null, .int 0])), (q_1, .inl (cI, 8, .inl (fun _ => 0))), (q_2, .inl (cI, 8, .inl (fun _ => 0))), (q_3, .inl (cI, 8, .inl (fun _ => 0)))] H := hP
  have hD : va_D A [(h0, .inr (2, [.ref q_1, .ref q_2, .int 0, .ref q_3, .null, .int 0])), (q_1, .inl (cI, 8, .inl (fun _ => 0))), (q_2, .inl (cI, 8, .inl (fun _ => 0))), (q_3, .inl (cI, 8, .inl (fun _ => 0)))] := hD
  refine lv_aload_n hx hb dX2_init_28 rfl (lv_at hl 0 rfl) ?_
  refine lv_sipush (v := 256) hx hb dX2_init_29 (by decide) ?_
  refine sv_newa (atype := .long) (ty := .long) (cA := cJ) (a0 := (256, .inr (.inl (fun _ => 0)))) (N' := 256) hx hb w_9 rfl rfl hK hP hD hS hA 2 rfl (fun _ => rfl) (by decide) (by decide) (by decide) (Nat.le_of_ble_eq_true rfl) (Nat.le_of_ble_eq_true rfl) 4 280 rfl rfl dX2_init_32 (fun q_4 H hP hD hS => ?_)
  have hP : va_P D vwCl [(h0, .inr (2, [.ref q_1, .ref q_2, .int 0, .ref q_3, .null, .int 0])), (q_1, .inl (cI, 8, .inl (fun _ => 0))), (q_2, .inl (cI, 8, .inl (fun _ => 0))), (q_3, .inl (cI, 8, .inl (fun _ => 0))), (q_4, .inl (cJ, 256, .inr (.inl (fun _ => 0))))] H := hP
  have hD : va_D A [(h0, .inr (2, [.ref q_1, .ref q_2, .int 0, .ref q_3, .null, .int 0])), (q_1, .inl (cI, 8, .inl (fun _ => 0))), (q_2, .inl (cI, 8, .inl (fun _ => 0))), (q_3, .inl (cI, 8, .inl (fun _ => 0))), (q_4, .inl (cJ, 256, .inr (.inl (fun _ => 0))))] := hD
  refine va_putF (D := D) (ci := 2) (v := .ref q_4) (ty := .array .long) (C := RX2) (T := TX2) (N := 6) hx hb hts w_5 tyX2 tyX2_ok nmX2 hown hK hP hD hS 0 rfl rfl 4 (by decide) w_10 (fun _ h9 => h9) rfl hin rfl (by decide +kernel) rfl rfl (Nat.le_of_ble_eq_true rfl) dX2_init_34 (fun H locs hP hD hS => ?_)
  have hP : va_P D vwCl [(h0, .inr (2, [.ref q_1, .ref q_2, .int 0, .ref q_3, .ref q_4, .int 0])), (q_1, .inl (cI, 8, .inl (fun _ => 0))), (q_2, .inl (cI, 8, .inl (fun _ => 0))), (q_3, .inl (cI, 8, .inl (fun _ => 0))), (q_4, .inl (cJ, 256, .inr (.inl (fun _ => 0))))] H := hP
  have hD : va_D A [(h0, .inr (2, [.ref q_1, .ref q_2, .int 0, .ref q_3, .ref q_4, .int 0])), (q_1, .inl (cI, 8, .inl (fun _ => 0))), (q_2, .inl (cI, 8, .inl (fun _ => 0))), (q_3, .inl (cI, 8, .inl (fun _ => 0))), (q_4, .inl (cJ, 256, .inr (.inl (fun _ => 0))))] := hD
  have hP9 := hP.sub (ws' := [(h0, .inr (2, [.ref q_1, .ref q_2, .int 0, .ref q_3, .ref q_4, .int 0])), (q_1, .inl (cI, 8, .inl (fun _ => 0))), (q_2, .inl (cI, 8, .inl (fun _ => 0))), (q_3, .inl (cI, 8, .inl (fun _ => 0))), (q_4, .inl (cJ, 256, .inr (.inl (fun _ => 0))))]) [0, 1, 2, 3, 4] rfl
  have hD9 := hD.sub (ws' := [(h0, .inr (2, [.ref q_1, .ref q_2, .int 0, .ref q_3, .ref q_4, .int 0])), (q_1, .inl (cI, 8, .inl (fun _ => 0))), (q_2, .inl (cI, 8, .inl (fun _ => 0))), (q_3, .inl (cI, 8, .inl (fun _ => 0))), (q_4, .inl (cJ, 256, .inr (.inl (fun _ => 0))))]) [0, 1, 2, 3, 4] (by decide) rfl
  exact W.vret hx hb hr (fun t ht hW => ⟨⟨(fun k => ([q_1, q_2, q_3, q_4] : List Nat).getD k 0), rfl, trivial, by rw [ht]; exact hP9, va_K.moved hW.alike hK, hD9⟩, hS.F ht⟩) hS.2.2 dX2_init_37

set_option maxHeartbeats 4000000 in
set_option maxRecDepth 100000 in
/-- BlueCoats$Chest(): its rows, all 0 -/
theorem k_X0_init (l : Launch) (D : va_G) (cB cI cJ cZ : ClassId) (sz : Nat) (h0 : Nat) : Met l yX0_init wsX0_init ({ frames := 1, cells := 6, slots := 100, locals := 28 } : Room) (cPre D (aTy cB cI cJ cZ) [(h0, .inr (0, [.null, .null, .null, .int 0, .int 0, .int 0, .null, .null, .null]))] sz [.ref h0]) (va_Qv (fun (u : Nat → Nat) => True) (cB_ D (aTy cB cI cJ cZ) (va_A [(h0, .inr (0, [.null, .null, .null, .int 0, .int 0, .int 0, .null, .null, .null]))] sz) (fun q => [(h0, .inr (0, [.ref (q 0), .ref (q 1), .ref (q 2), .int 0, .int 0, .int 0, .ref (q 3), .ref (q 4), .ref (q 5)])), (q 0, .inl (cI, 6, .inl (fun _ => 0))), (q 1, .inl (cI, 6, .inl (fun _ => 0))), (q 2, .inl (cI, 8, .inl (fun _ => 0))), (q 3, .inl (cI, 8, .inl (fun _ => 0))), (q 4, .inl (cI, 8, .inl (fun _ => 0))), (q 5, .inl (cI, 64, .inl (fun _ => 0)))])) (va_A [(h0, .inr (0, [.null, .null, .null, .int 0, .int 0, .int 0, .null, .null, .null]))] sz)) 6 100 (va_A [(h0, .inr (0, [.null, .null, .null, .int 0, .int 0, .int 0, .null, .null, .null]))] sz) := by
  refine Met.ofW (cc := cX0_init) (maxL := 1) (ret := none) (by decide) rfl ?_
  intro p e s m args below meth c s₁ B hml hv
  obtain ⟨rfl, hsz, hP, hK, hD0⟩ := hv
  have hx := B.exec
  have hb := B.bytes
  have hr := B.returns
  have hts := atoms_spec (ws := wsX0_init) B.pre
  have hown : s.vm.findClass RX0 = some m.cls := findClass_of_methodNamed B.named
  have hlocks := B.notSynchronized
  have hin : meth.name = "<init>" := (name_of_methodNamed B.named B.method).1
  subst hsz
  have hD := hD0.self (sz := s.heap.size)
  generalize hAe : va_A [(h0, .inr (0, [.null, .null, .null, .int 0, .int 0, .int 0, .null, .null, .null]))] s.heap.size = A at hD ⊢
  have hA : ∀ q : Nat, s.heap.size ≤ q → A q := fun q h => by rw [← hAe]; exact Or.inr h
  have hS : va_S A s.heap s.heap [] := va_S.rf
  have hP : va_P D vwCl [(h0, .inr (0, [.null, .null, .null, .int 0, .int 0, .int 0, .null, .null, .null]))] s.heap := hP
  have w_1 := hts (Cond.methodLink RX0 5 objectInit) (by decide +kernel)
  have w_2 := hts (Cond.instanceMethod objectInit) (by decide +kernel)
  have w_3 := hts (Cond.code objectInit ⟨#[0xb1]⟩ 1 none) (by decide +kernel)
  have w_4 := hts (Cond.arrayClass .int) (by decide +kernel)
  have w_5 : ∀ w ∈ wsX00, w ∈ wsX0_init := by decide +kernel
  have w_6 := hts (Cond.fieldLink RX0 11 "BlueCoats$Chest" "need" "[I") (by decide +kernel)
  have w_7 := hts (Cond.fieldLink RX0 15 "BlueCoats$Chest" "toEnd" "[I") (by decide +kernel)
  have w_8 := hts (Cond.fieldLink RX0 18 "BlueCoats$Chest" "fromLegacy" "[I") (by decide +kernel)
  have w_9 := hts (Cond.fieldLink RX0 21 "BlueCoats$Chest" "coins" "[I") (by decide +kernel)
  have w_10 := hts (Cond.fieldLink RX0 24 "BlueCoats$Chest" "ends" "[I") (by decide +kernel)
  have w_11 := hts (Cond.fieldLink RX0 27 "BlueCoats$Chest" "lack" "[I") (by decide +kernel)
  have hl := lv_entry ([.ref h0]) (n := 1) (Nat.le_of_ble_eq_true rfl)
  rw [lg_entry_eq]
  generalize (lg_sl ([.ref h0]) ++ List.replicate (1 - (lg_sl ([.ref h0])).length) Slot.unset).toArray = ls at hl ⊢
  have hl : lv_has ls 1 [(0, .ref h0)] := hl
  refine lv_aload_n hx hb dX0_init_0 rfl (lv_at hl 0 rfl) ?_
  refine W.objInit hx hb hown w_1 w_2 w_3 rfl (by rw [hml]; exact hl.1) rfl dX0_init_1 (Nat.le_of_ble_eq_true rfl) (Nat.le_of_ble_eq_true rfl) ?_
  refine W.eq (g2 := F0 m 4 ls []) rfl ?_
  refine lv_aload_n hx hb dX0_init_4 rfl (lv_at hl 0 rfl) ?_
  refine lv_bipush (v := 6) hx hb dX0_init_5 (by decide) ?_
  refine sv_newa (atype := .int) (ty := .int) (cA := cI) (a0 := (6, .inl (fun _ => 0))) (N' := 6) hx hb w_4 rfl rfl hK hP hD hS hA 1 rfl (fun _ => rfl) (by decide) (by decide) (by decide) (Nat.le_of_ble_eq_true rfl) (Nat.le_of_ble_eq_true rfl) 1 6 rfl rfl dX0_init_7 (fun q_1 H hP hD hS => ?_)
  have hP : va_P D vwCl [(h0, .inr (0, [.null, .null, .null, .int 0, .int 0, .int 0, .null, .null, .null])), (q_1, .inl (cI, 6, .inl (fun _ => 0)))] H := hP
  have hD : va_D A [(h0, .inr (0, [.null, .null, .null, .int 0, .int 0, .int 0, .null, .null, .null])), (q_1, .inl (cI, 6, .inl (fun _ => 0)))] := hD
  refine va_putF (D := D) (ci := 0) (v := .ref q_1) (ty := .array .int) (C := RX0) (T := TX0) (N := 9) hx hb hts w_5 tyX0 tyX0_ok nmX0 hown hK hP hD hS 0 rfl rfl 0 (by decide) w_6 (fun _ h9 => h9) rfl hin rfl (by decide +kernel) rfl rfl (Nat.le_of_ble_eq_true rfl) dX0_init_9 (fun H locs hP hD hS => ?_)
  have hP : va_P D vwCl [(h0, .inr (0, [.ref q_1, .null, .null, .int 0, .int 0, .int 0, .null, .null, .null])), (q_1, .inl (cI, 6, .inl (fun _ => 0)))] H := hP
  have hD : va_D A [(h0, .inr (0, [.ref q_1, .null, .null, .int 0, .int 0, .int 0, .null, .null, .null])), (q_1, .inl (cI, 6, .inl (fun _ => 0)))] := hD
  refine lv_aload_n hx hb dX0_init_12 rfl (lv_at hl 0 rfl) ?_
  refine lv_bipush (v := 6) hx hb dX0_init_13 (by decide) ?_
  refine sv_newa (atype := .int) (ty := .int) (cA := cI) (a0 := (6, .inl (fun _ => 0))) (N' := 6) hx hb w_4 rfl rfl hK hP hD hS hA 1 rfl (fun _ => rfl) (by decide) (by decide) (by decide) (Nat.le_of_ble_eq_true rfl) (Nat.le_of_ble_eq_true rfl) 2 12 rfl rfl dX0_init_15 (fun q_2 H hP hD hS => ?_)
  have hP : va_P D vwCl [(h0, .inr (0, [.ref q_1, .null, .null, .int 0, .int 0, .int 0, .null, .null, .null])), (q_1, .inl (cI, 6, .inl (fun _ => 0))), (q_2, .inl (cI, 6, .inl (fun _ => 0)))] H := hP
  have hD : va_D A [(h0, .inr (0, [.ref q_1, .null, .null, .int 0, .int 0, .int 0, .null, .null, .null])), (q_1, .inl (cI, 6, .inl (fun _ => 0))), (q_2, .inl (cI, 6, .inl (fun _ => 0)))] := hD
  refine va_putF (D := D) (ci := 0) (v := .ref q_2) (ty := .array .int) (C := RX0) (T := TX0) (N := 9) hx hb hts w_5 tyX0 tyX0_ok nmX0 hown hK hP hD hS 0 rfl rfl 1 (by decide) w_7 (fun _ h9 => h9) rfl hin rfl (by decide +kernel) rfl rfl (Nat.le_of_ble_eq_true rfl) dX0_init_17 (fun H locs hP hD hS => ?_)
  have hP : va_P D vwCl [(h0, .inr (0, [.ref q_1, .ref q_2, .null, .int 0, .int 0, .int 0, .null, .null, .null])), (q_1, .inl (cI, 6, .inl (fun _ => 0))), (q_2, .inl (cI, 6, .inl (fun _ => 0)))] H := hP
  have hD : va_D A [(h0, .inr (0, [.ref q_1, .ref q_2, .null, .int 0, .int 0, .int 0, .null, .null, .null])), (q_1, .inl (cI, 6, .inl (fun _ => 0))), (q_2, .inl (cI, 6, .inl (fun _ => 0)))] := hD
  refine lv_aload_n hx hb dX0_init_20 rfl (lv_at hl 0 rfl) ?_
  refine lv_bipush (v := 8) hx hb dX0_init_21 (by decide) ?_
  refine sv_newa (atype := .int) (ty := .int) (cA := cI) (a0 := (8, .inl (fun _ => 0))) (N' := 8) hx hb w_4 rfl rfl hK hP hD hS hA 1 rfl (fun _ => rfl) (by decide) (by decide) (by decide) (Nat.le_of_ble_eq_true rfl) (Nat.le_of_ble_eq_true rfl) 3 20 rfl rfl dX0_init_23 (fun q_3 H hP hD hS => ?_)
  have hP : va_P D vwCl [(h0, .inr (0, [.ref q_1, .ref q_2, .null, .int 0, .int 0, .int 0, .null, .null, .null])), (q_1, .inl (cI, 6, .inl (fun _ => 0))), (q_2, .inl (cI, 6, .inl (fun _ => 0))), (q_3, .inl (cI, 8, .inl (fun _ => 0)))] H := hP
  have hD : va_D A [(h0, .inr (0, [.ref q_1, .ref q_2, .null, .int 0, .int 0, .int 0, .null, .null, .null])), (q_1, .inl (cI, 6, .inl (fun _ => 0))), (q_2, .inl (cI, 6, .inl (fun _ => 0))), (q_3, .inl (cI, 8, .inl (fun _ => 0)))] := hD
  refine va_putF (D := D) (ci := 0) (v := .ref q_3) (ty := .array .int) (C := RX0) (T := TX0) (N := 9) hx hb hts w_5 tyX0 tyX0_ok nmX0 hown hK hP hD hS 0 rfl rfl 2 (by decide) w_8 (fun _ h9 => h9) rfl hin rfl (by decide +kernel) rfl rfl (Nat.le_of_ble_eq_true rfl) dX0_init_25 (fun H locs hP hD hS => ?_)
  have hP : va_P D vwCl [(h0, .inr (0, [.ref q_1, .ref q_2, .ref q_3, .int 0, .int 0, .int 0, .null, .null, .null])), (q_1, .inl (cI, 6, .inl (fun _ => 0))), (q_2, .inl (cI, 6, .inl (fun _ => 0))), (q_3, .inl (cI, 8, .inl (fun _ => 0)))] H := hP
  have hD : va_D A [(h0, .inr (0, [.ref q_1, .ref q_2, .ref q_3, .int 0, .int 0, .int 0, .null, .null, .null])), (q_1, .inl (cI, 6, .inl (fun _ => 0))), (q_2, .inl (cI, 6, .inl (fun _ => 0))), (q_3, .inl (cI, 8, .inl (fun _ => 0)))] := hD
  refine lv_aload_n hx hb dX0_init_28 rfl (lv_at hl 0 rfl) ?_
  refine lv_bipush (v := 8) hx hb dX0_init_29 (by decide) ?_
  refine sv_newa (atype := .int) (ty := .int) (cA := cI) (a0 := (8, .inl (fun _ => 0))) (N' := 8) hx hb w_4 rfl rfl hK hP hD hS hA 1 rfl (fun _ => rfl) (by decide) (by decide) (by decide) (Nat.le_of_ble_eq_true rfl) (Nat.le_of_ble_eq_true rfl) 4 28 rfl rfl dX0_init_31 (fun q_4 H hP hD hS => ?_)
  have hP : va_P D vwCl [(h0, .inr (0, [.ref q_1, .ref q_2, .ref q_3, .int 0, .int 0, .int 0, .null, .null, .null])), (q_1, .inl (cI, 6, .inl (fun _ => 0))), (q_2, .inl (cI, 6, .inl (fun _ => 0))), (q_3, .inl (cI, 8, .inl (fun _ => 0))), (q_4, .inl (cI, 8, .inl (fun _ => 0)))] H := hP
  have hD : va_D A [(h0, .inr (0, [.ref q_1, .ref q_2, .ref q_3, .int 0, .int 0, .int 0, .null, .null, .null])), (q_1, .inl (cI, 6, .inl (fun _ => 0))), (q_2, .inl (cI, 6, .inl (fun _ => 0))), (q_3, .inl (cI, 8, .inl (fun _ => 0))), (q_4, .inl (cI, 8, .inl (fun _ => 0)))] := hD
  refine va_putF (D := D) (ci := 0) (v := .ref q_4) (ty := .array .int) (C := RX0) (T := TX0) (N := 9) hx hb hts w_5 tyX0 tyX0_ok nmX0 hown hK hP hD hS 0 rfl rfl 6 (by decide) w_9 (fun _ h9 => h9) rfl hin rfl (by decide +kernel) rfl rfl (Nat.le_of_ble_eq_true rfl) dX0_init_33 (fun H locs hP hD hS => ?_)
  have hP : va_P D vwCl [(h0, .inr (0, [.ref q_1, .ref q_2, .ref q_3, .int 0, .int 0, .int 0, .ref q_4, .null, .null])), (q_1, .inl (cI, 6, .inl (fun _ => 0))), (q_2, .inl (cI, 6, .inl (fun _ => 0))), (q_3, .inl (cI, 8, .inl (fun _ => 0))), (q_4, .inl (cI, 8, .inl (fun _ => 0)))] H := hP
  have hD : va_D A [(h0, .inr (0, [.ref q_1, .ref q_2, .ref q_3, .int 0, .int 0, .int 0, .ref q_4, .null, .null])), (q_1, .inl (cI, 6, .inl (fun _ => 0))), (q_2, .inl (cI, 6, .inl (fun _ => 0))), (q_3, .inl (cI, 8, .inl (fun _ => 0))), (q_4, .inl (cI, 8, .inl (fun _ => 0)))] := hD
  refine lv_aload_n hx hb dX0_init_36 rfl (lv_at hl 0 rfl) ?_
  refine lv_bipush (v := 8) hx hb dX0_init_37 (by decide) ?_
  refine sv_newa (atype := .int) (ty := .int) (cA := cI) (a0 := (8, .inl (fun _ => 0))) (N' := 8) hx hb w_4 rfl rfl hK hP hD hS hA 1 rfl (fun _ => rfl) (by decide) (by decide) (by decide) (Nat.le_of_ble_eq_true rfl) (Nat.le_of_ble_eq_true rfl) 5 36 rfl rfl dX0_init_39 (fun q_5 H hP hD hS => ?_)
  have hP : va_P D vwCl [(h0, .inr (0, [.ref q_1, .ref q_2, .ref q_3, .int 0, .int 0, .int 0, .ref q_4, .null, .null])), (q_1, .inl (cI, 6, .inl (fun _ => 0))), (q_2, .inl (cI, 6, .inl (fun _ => 0))), (q_3, .inl (cI, 8, .inl (fun _ => 0))), (q_4, .inl (cI, 8, .inl (fun _ => 0))), (q_5, .inl (cI, 8, .inl (fun _ => 0)))] H := hP
  have hD : va_D A [(h0, .inr (0, [.ref q_1, .ref q_2, .ref q_3, .int 0, .int 0, .int 0, .ref q_4, .null, .null])), (q_1, .inl (cI, 6, .inl (fun _ => 0))), (q_2, .inl (cI, 6, .inl (fun _ => 0))), (q_3, .inl (cI, 8, .inl (fun _ => 0))), (q_4, .inl (cI, 8, .inl (fun _ => 0))), (q_5, .inl (cI, 8, .inl (fun _ => 0)))] := hD
  refine va_putF (D := D) (ci := 0) (v := .ref q_5) (ty := .array .int) (C := RX0) (T := TX0) (N := 9) hx hb hts w_5 tyX0 tyX0_ok nmX0 hown hK hP hD hS 0 rfl rfl 7 (by decide) w_10 (fun _ h9 => h9) rfl hin rfl (by decide +kernel) rfl rfl (Nat.le_of_ble_eq_true rfl) dX0_init_41 (fun H locs hP hD hS => ?_)
  have hP : va_P D vwCl [(h0, .inr (0, [.ref q_1, .ref q_2, .ref q_3, .int 0, .int 0, .int 0, .ref q_4, .ref q_5, .null])), (q_1, .inl (cI, 6, .inl (fun _ => 0))), (q_2, .inl (cI, 6, .inl (fun _ => 0))), (q_3, .inl (cI, 8, .inl (fun _ => 0))), (q_4, .inl (cI, 8, .inl (fun _ => 0))), (q_5, .inl (cI, 8, .inl (fun _ => 0)))] H := hP
  have hD : va_D A [(h0, .inr (0, [.ref q_1, .ref q_2, .ref q_3, .int 0, .int 0, .int 0, .ref q_4, .ref q_5, .null])), (q_1, .inl (cI, 6, .inl (fun _ => 0))), (q_2, .inl (cI, 6, .inl (fun _ => 0))), (q_3, .inl (cI, 8, .inl (fun _ => 0))), (q_4, .inl (cI, 8, .inl (fun _ => 0))), (q_5, .inl (cI, 8, .inl (fun _ => 0)))] := hD
  refine lv_aload_n hx hb dX0_init_44 rfl (lv_at hl 0 rfl) ?_
  refine lv_bipush (v := 64) hx hb dX0_init_45 (by decide) ?_
  refine sv_newa (atype := .int) (ty := .int) (cA := cI) (a0 := (64, .inl (fun _ => 0))) (N' := 64) hx hb w_4 rfl rfl hK hP hD hS hA 1 rfl (fun _ => rfl) (by decide) (by decide) (by decide) (Nat.le_of_ble_eq_true rfl) (Nat.le_of_ble_eq_true rfl) 6 100 rfl rfl dX0_init_47 (fun q_6 H hP hD hS => ?_)
  have hP : va_P D vwCl [(h0, .inr (0, [.ref q_1, .ref q_2, .ref q_3, .int 0, .int 0, .int 0, .ref q_4, .ref q_5, .null])), (q_1, .inl (cI, 6, .inl (fun _ => 0))), (q_2, .inl (cI, 6, .inl (fun _ => 0))), (q_3, .inl (cI, 8, .inl (fun _ => 0))), (q_4, .inl (cI, 8, .inl (fun _ => 0))), (q_5, .inl (cI, 8, .inl (fun _ => 0))), (q_6, .inl (cI, 64, .inl (fun _ => 0)))] H := hP
  have hD : va_D A [(h0, .inr (0, [.ref q_1, .ref q_2, .ref q_3, .int 0, .int 0, .int 0, .ref q_4, .ref q_5, .null])), (q_1, .inl (cI, 6, .inl (fun _ => 0))), (q_2, .inl (cI, 6, .inl (fun _ => 0))), (q_3, .inl (cI, 8, .inl (fun _ => 0))), (q_4, .inl (cI, 8, .inl (fun _ => 0))), (q_5, .inl (cI, 8, .inl (fun _ => 0))), (q_6, .inl (cI, 64, .inl (fun _ => 0)))] := hD
  refine va_putF (D := D) (ci := 0) (v := .ref q_6) (ty := .array .int) (C := RX0) (T := TX0) (N := 9) hx hb hts w_5 tyX0 tyX0_ok nmX0 hown hK hP hD hS 0 rfl rfl 8 (by decide) w_11 (fun _ h9 => h9) rfl hin rfl (by decide +kernel) rfl rfl (Nat.le_of_ble_eq_true rfl) dX0_init_49 (fun H locs hP hD hS => ?_)
  have hP : va_P D vwCl [(h0, .inr (0, [.ref q_1, .ref q_2, .ref q_3, .int 0, .int 0, .int 0, .ref q_4, .ref q_5, .ref q_6])), (q_1, .inl (cI, 6, .inl (fun _ => 0))), (q_2, .inl (cI, 6, .inl (fun _ => 0))), (q_3, .inl (cI, 8, .inl (fun _ => 0))), (q_4, .inl (cI, 8, .inl (fun _ => 0))), (q_5, .inl (cI, 8, .inl (fun _ => 0))), (q_6, .inl (cI, 64, .inl (fun _ => 0)))] H := hP
  have hD : va_D A [(h0, .inr (0, [.ref q_1, .ref q_2, .ref q_3, .int 0, .int 0, .int 0, .ref q_4, .ref q_5, .ref q_6])), (q_1, .inl (cI, 6, .inl (fun _ => 0))), (q_2, .inl (cI, 6, .inl (fun _ => 0))), (q_3, .inl (cI, 8, .inl (fun _ => 0))), (q_4, .inl (cI, 8, .inl (fun _ => 0))), (q_5, .inl (cI, 8, .inl (fun _ => 0))), (q_6, .inl (cI, 64, .inl (fun _ => 0)))] := hD
  have hP9 := hP.sub (ws' := [(h0, .inr (0, [.ref q_1, .ref q_2, .ref q_3, .int 0, .int 0, .int 0, .ref q_4, .ref q_5, .ref q_6])), (q_1, .inl (cI, 6, .inl (fun _ => 0))), (q_2, .inl (cI, 6, .inl (fun _ => 0))), (q_3, .inl (cI, 8, .inl (fun _ => 0))), (q_4, .inl (cI, 8, .inl (fun _ => 0))), (q_5, .inl (cI, 8, .inl (fun _ => 0))), (q_6, .inl (cI, 64, .inl (fun _ => 0)))]) [0, 1, 2, 3, 4, 5, 6] rfl
  have hD9 := hD.sub (ws' := [(h0, .inr (0, [.ref q_1, .ref q_2, .ref q_3, .int 0, .int 0, .int 0, .ref q_4, .ref q_5, .ref q_6])), (q_1, .inl (cI, 6, .inl (fun _ => 0))), (q_2, .inl (cI, 6, .inl (fun _ => 0))), (q_3, .inl (cI, 8, .inl (fun _ => 0))), (q_4, .inl (cI, 8, .inl (fun _ => 0))), (q_5, .inl (cI, 8, .inl (fun _ => 0))), (q_6, .inl (cI, 64, .inl (fun _ => 0)))]) [0, 1, 2, 3, 4, 5, 6] (by decide) rfl
  exact W.vret hx hb hr (fun t ht hW => ⟨⟨(fun k => ([q_1, q_2, q_3, q_4, q_5, q_6] : List Nat).getD k 0), rfl, trivial, by rw [ht]; exact hP9, va_K.moved hW.alike hK, hD9⟩, hS.F ht⟩) hS.2.2 dX0_init_52

set_option maxHeartbeats 4000000 in
set_option maxRecDepth 100000 in
/-- sayNothing(): what holds without a line -/
theorem k_X5_say (l : Launch) (D : va_G) (cB cI cJ cZ : ClassId) (sz : Nat) (h0 h1 : Nat) (a1 a2 a3 a4 a5 a6 a7 a8 : Int32) (g0 : Nat → Int32) : Met l yX5_sayNothing wsX5_sayNothing ({ frames := 0, cells := 0, slots := 0, locals := 0 } : Room) (cPre D (aTy cB cI cJ cZ) [(h0, .inr (5, [.ref h1, .int a1, .int a2, .int a3, .int a4, .int a5, .int a6, .int a7, .int a8])), (h1, .inl (cI, 8, .inl g0))] sz [.ref h0]) (va_Qv (fun (u : Unit) => True) (cB_ D (aTy cB cI cJ cZ) (va_A [(h0, .inr (5, [.ref h1, .int a1, .int a2, .int a3, .int a4, .int a5, .int a6, .int a7, .int a8])), (h1, .inl (cI, 8, .inl g0))] sz) (fun _ => [(h0, .inr (5, [.ref h1, .int 1, .int 0, .int 100, .int 7, .int 14, .int 3, .int 1, .int 8])), (h1, .inl (cI, 8, .inl (upd g0 0 2)))])) (va_A [(h0, .inr (5, [.ref h1, .int a1, .int a2, .int a3, .int a4, .int a5, .int a6, .int a7, .int a8])), (h1, .inl (cI, 8, .inl g0))] sz)) 0 0 (va_A [(h0, .inr (5, [.ref h1, .int a1, .int a2, .int a3, .int a4, .int a5, .int a6, .int a7, .int a8])), (h1, .inl (cI, 8, .inl g0))] sz) := by
  refine Met.ofW (cc := cX5_sayNothing) (maxL := 1) (ret := none) (by decide) rfl ?_
  intro p e s m args below meth c s₁ B hml hv
  obtain ⟨rfl, hsz, hP, hK, hD0⟩ := hv
  have hx := B.exec
  have hb := B.bytes
  have hr := B.returns
  have hts := atoms_spec (ws := wsX5_sayNothing) B.pre
  have hown : s.vm.findClass RX5 = some m.cls := findClass_of_methodNamed B.named
  have hlocks := B.notSynchronized
  subst hsz
  have hD := hD0.self (sz := s.heap.size)
  generalize hAe : va_A [(h0, .inr (5, [.ref h1, .int a1, .int a2, .int a3, .int a4, .int a5, .int a6, .int a7, .int a8])), (h1, .inl (cI, 8, .inl g0))] s.heap.size = A at hD ⊢
  have hA : ∀ q : Nat, s.heap.size ≤ q → A q := fun q h => by rw [← hAe]; exact Or.inr h
  have hS : va_S A s.heap s.heap [] := va_S.rf
  have hP : va_P D vwCl [(h0, .inr (5, [.ref h1, .int a1, .int a2, .int a3, .int a4, .int a5, .int a6, .int a7, .int a8])), (h1, .inl (cI, 8, .inl g0))] s.heap := hP
  have w_1 : ∀ w ∈ wsX50, w ∈ wsX5_sayNothing := by decide +kernel
  have w_2 := hts (Cond.fieldLink RX5 11 "BlueCoats$Statutes" "cycle" "[I") (by decide +kernel)
  have w_3 := hts (Cond.fieldLink RX5 18 "BlueCoats$Statutes" "ways" "I") (by decide +kernel)
  have w_4 := hts (Cond.fieldLink RX5 22 "BlueCoats$Statutes" "next" "I") (by decide +kernel)
  have w_5 := hts (Cond.fieldLink RX5 25 "BlueCoats$Statutes" "vote" "I") (by decide +kernel)
  have w_6 := hts (Cond.fieldLink RX5 28 "BlueCoats$Statutes" "ageFrom" "I") (by decide +kernel)
  have w_7 := hts (Cond.fieldLink RX5 31 "BlueCoats$Statutes" "ageTo" "I") (by decide +kernel)
  have w_8 := hts (Cond.fieldLink RX5 34 "BlueCoats$Statutes" "wear" "I") (by decide +kernel)
  have w_9 := hts (Cond.fieldLink RX5 37 "BlueCoats$Statutes" "spare" "I") (by decide +kernel)
  have w_10 := hts (Cond.fieldLink RX5 40 "BlueCoats$Statutes" "places" "I") (by decide +kernel)
  have hl := lv_entry ([.ref h0]) (n := 1) (Nat.le_of_ble_eq_true rfl)
  rw [lg_entry_eq]
  generalize (lg_sl ([.ref h0]) ++ List.replicate (1 - (lg_sl ([.ref h0])).length) Slot.unset).toArray = ls at hl ⊢
  have hl : lv_has ls 1 [(0, .ref h0)] := hl
  refine lv_aload_n hx hb dX5_sayNothing_0 rfl (lv_at hl 0 rfl) ?_
  refine va_get (D := D) (ci := 5) (v := .ref h1) (C := RX5) (T := TX5) (N := 9) hx hb hts w_1 hown hK hP 0 rfl rfl 0 (by decide) w_2 (fun _ h9 => h9) rfl dX5_sayNothing_1 ?_
  refine lv_iconst (v := 0) hx hb dX5_sayNothing_4 (by decide) ?_
  refine lv_iconst (v := 2) hx hb dX5_sayNothing_5 (by decide) ?_
  refine sv_iast hx hb hK hP hD hS 1 1 rfl rfl (vp_in_iff.mpr (by decide)) dX5_sayNothing_6 (fun g_1 H locs eg_1 hP hD hS => ?_)
  have eg_1 : g_1 = upd g0 0 2 := eg_1
  subst eg_1
  have hP : va_P D vwCl [(h0, .inr (5, [.ref h1, .int a1, .int a2, .int a3, .int a4, .int a5, .int a6, .int a7, .int a8])), (h1, .inl (cI, 8, .inl (upd g0 0 2)))] H := hP
  have hD : va_D A [(h0, .inr (5, [.ref h1, .int a1, .int a2, .int a3, .int a4, .int a5, .int a6, .int a7, .int a8])), (h1, .inl (cI, 8, .inl (upd g0 0 2)))] := hD
  refine lv_aload_n hx hb dX5_sayNothing_7 rfl (lv_at hl 0 rfl) ?_
  refine lv_iconst (v := 1) hx hb dX5_sayNothing_8 (by decide) ?_
  refine va_put (D := D) (ci := 5) (v := .int 1) (ty := .int) (C := RX5) (T := TX5) (N := 9) hx hb hts w_1 tyX5 tyX5_ok nmX5 hown hK hP hD hS 0 rfl rfl 1 (by decide) w_3 (fun _ h9 => h9) rfl (by decide +kernel) rfl rfl (Nat.le_of_ble_eq_true rfl) dX5_sayNothing_9 (fun H locs hP hD hS => ?_)
  have hP : va_P D vwCl [(h0, .inr (5, [.ref h1, .int 1, .int a2, .int a3, .int a4, .int a5, .int a6, .int a7, .int a8])), (h1, .inl (cI, 8, .inl (upd g0 0 2)))] H := hP
  have hD : va_D A [(h0, .inr (5, [.ref h1, .int 1, .int a2, .int a3, .int a4, .int a5, .int a6, .int a7, .int a8])), (h1, .inl (cI, 8, .inl (upd g0 0 2)))] := hD
  refine lv_aload_n hx hb dX5_sayNothing_12 rfl (lv_at hl 0 rfl) ?_
  refine lv_iconst (v := 0) hx hb dX5_sayNothing_13 (by decide) ?_
  refine va_put (D := D) (ci := 5) (v := .int 0) (ty := .int) (C := RX5) (T := TX5) (N := 9) hx hb hts w_1 tyX5 tyX5_ok nmX5 hown hK hP hD hS 0 rfl rfl 2 (by decide) w_4 (fun _ h9 => h9) rfl (by decide +kernel) rfl rfl (Nat.le_of_ble_eq_true rfl) dX5_sayNothing_14 (fun H locs hP hD hS => ?_)
  have hP : va_P D vwCl [(h0, .inr (5, [.ref h1, .int 1, .int 0, .int a3, .int a4, .int a5, .int a6, .int a7, .int a8])), (h1, .inl (cI, 8, .inl (upd g0 0 2)))] H := hP
  have hD : va_D A [(h0, .inr (5, [.ref h1, .int 1, .int 0, .int a3, .int a4, .int a5, .int a6, .int a7, .int a8])), (h1, .inl (cI, 8, .inl (upd g0 0 2)))] := hD
  refine lv_aload_n hx hb dX5_sayNothing_17 rfl (lv_at hl 0 rfl) ?_
  refine lv_bipush (v := 100) hx hb dX5_sayNothing_18 (by decide) ?_
  refine va_put (D := D) (ci := 5) (v := .int 100) (ty := .int) (C := RX5) (T := TX5) (N := 9) hx hb hts w_1 tyX5 tyX5_ok nmX5 hown hK hP hD hS 0 rfl rfl 3 (by decide) w_5 (fun _ h9 => h9) rfl (by decide +kernel) rfl rfl (Nat.le_of_ble_eq_true rfl) dX5_sayNothing_20 (fun H locs hP hD hS => ?_)
  have hP : va_P D vwCl [(h0, .inr (5, [.ref h1, .int 1, .int 0, .int 100, .int a4, .int a5, .int a6, .int a7, .int a8])), (h1, .inl (cI, 8, .inl (upd g0 0 2)))] H := hP
  have hD : va_D A [(h0, .inr (5, [.ref h1, .int 1, .int 0, .int 100, .int a4, .int a5, .int a6, .int a7, .int a8])), (h1, .inl (cI, 8, .inl (upd g0 0 2)))] := hD
  refine lv_aload_n hx hb dX5_sayNothing_23 rfl (lv_at hl 0 rfl) ?_
  refine lv_bipush (v := 7) hx hb dX5_sayNothing_24 (by decide) ?_
  refine va_put (D := D) (ci := 5) (v := .int 7) (ty := .int) (C := RX5) (T := TX5) (N := 9) hx hb hts w_1 tyX5 tyX5_ok nmX5 hown hK hP hD hS 0 rfl rfl 4 (by decide) w_6 (fun _ h9 => h9) rfl (by decide +kernel) rfl rfl (Nat.le_of_ble_eq_true rfl) dX5_sayNothing_26 (fun H locs hP hD hS => ?_)
  have hP : va_P D vwCl [(h0, .inr (5, [.ref h1, .int 1, .int 0, .int 100, .int 7, .int a5, .int a6, .int a7, .int a8])), (h1, .inl (cI, 8, .inl (upd g0 0 2)))] H := hP
  have hD : va_D A [(h0, .inr (5, [.ref h1, .int 1, .int 0, .int 100, .int 7, .int a5, .int a6, .int a7, .int a8])), (h1, .inl (cI, 8, .inl (upd g0 0 2)))] := hD
  refine lv_aload_n hx hb dX5_sayNothing_29 rfl (lv_at hl 0 rfl) ?_
  refine lv_bipush (v := 14) hx hb dX5_sayNothing_30 (by decide) ?_
  refine va_put (D := D) (ci := 5) (v := .int 14) (ty := .int) (C := RX5) (T := TX5) (N := 9) hx hb hts w_1 tyX5 tyX5_ok nmX5 hown hK hP hD hS 0 rfl rfl 5 (by decide) w_7 (fun _ h9 => h9) rfl (by decide +kernel) rfl rfl (Nat.le_of_ble_eq_true rfl) dX5_sayNothing_32 (fun H locs hP hD hS => ?_)
  have hP : va_P D vwCl [(h0, .inr (5, [.ref h1, .int 1, .int 0, .int 100, .int 7, .int 14, .int a6, .int a7, .int a8])), (h1, .inl (cI, 8, .inl (upd g0 0 2)))] H := hP
  have hD : va_D A [(h0, .inr (5, [.ref h1, .int 1, .int 0, .int 100, .int 7, .int 14, .int a6, .int a7, .int a8])), (h1, .inl (cI, 8, .inl (upd g0 0 2)))] := hD
  refine lv_aload_n hx hb dX5_sayNothing_35 rfl (lv_at hl 0 rfl) ?_
  refine lv_iconst (v := 3) hx hb dX5_sayNothing_36 (by decide) ?_
  refine va_put (D := D) (ci := 5) (v := .int 3) (ty := .int) (C := RX5) (T := TX5) (N := 9) hx hb hts w_1 tyX5 tyX5_ok nmX5 hown hK hP hD hS 0 rfl rfl 6 (by decide) w_8 (fun _ h9 => h9) rfl (by decide +kernel) rfl rfl (Nat.le_of_ble_eq_true rfl) dX5_sayNothing_37 (fun H locs hP hD hS => ?_)
  have hP : va_P D vwCl [(h0, .inr (5, [.ref h1, .int 1, .int 0, .int 100, .int 7, .int 14, .int 3, .int a7, .int a8])), (h1, .inl (cI, 8, .inl (upd g0 0 2)))] H := hP
  have hD : va_D A [(h0, .inr (5, [.ref h1, .int 1, .int 0, .int 100, .int 7, .int 14, .int 3, .int a7, .int a8])), (h1, .inl (cI, 8, .inl (upd g0 0 2)))] := hD
  refine lv_aload_n hx hb dX5_sayNothing_40 rfl (lv_at hl 0 rfl) ?_
  refine lv_iconst (v := 1) hx hb dX5_sayNothing_41 (by decide) ?_
  refine va_put (D := D) (ci := 5) (v := .int 1) (ty := .int) (C := RX5) (T := TX5) (N := 9) hx hb hts w_1 tyX5 tyX5_ok nmX5 hown hK hP hD hS 0 rfl rfl 7 (by decide) w_9 (fun _ h9 => h9) rfl (by decide +kernel) rfl rfl (Nat.le_of_ble_eq_true rfl) dX5_sayNothing_42 (fun H locs hP hD hS => ?_)
  have hP : va_P D vwCl [(h0, .inr (5, [.ref h1, .int 1, .int 0, .int 100, .int 7, .int 14, .int 3, .int 1, .int a8])), (h1, .inl (cI, 8, .inl (upd g0 0 2)))] H := hP
  have hD : va_D A [(h0, .inr (5, [.ref h1, .int 1, .int 0, .int 100, .int 7, .int 14, .int 3, .int 1, .int a8])), (h1, .inl (cI, 8, .inl (upd g0 0 2)))] := hD
  refine lv_aload_n hx hb dX5_sayNothing_45 rfl (lv_at hl 0 rfl) ?_
  refine lv_bipush (v := 8) hx hb dX5_sayNothing_46 (by decide) ?_
  refine va_put (D := D) (ci := 5) (v := .int 8) (ty := .int) (C := RX5) (T := TX5) (N := 9) hx hb hts w_1 tyX5 tyX5_ok nmX5 hown hK hP hD hS 0 rfl rfl 8 (by decide) w_10 (fun _ h9 => h9) rfl (by decide +kernel) rfl rfl (Nat.le_of_ble_eq_true rfl) dX5_sayNothing_48 (fun H locs hP hD hS => ?_)
  have hP : va_P D vwCl [(h0, .inr (5, [.ref h1, .int 1, .int 0, .int 100, .int 7, .int 14, .int 3, .int 1, .int 8])), (h1, .inl (cI, 8, .inl (upd g0 0 2)))] H := hP
  have hD : va_D A [(h0, .inr (5, [.ref h1, .int 1, .int 0, .int 100, .int 7, .int 14, .int 3, .int 1, .int 8])), (h1, .inl (cI, 8, .inl (upd g0 0 2)))] := hD
  have hP9 := hP.sub (ws' := [(h0, .inr (5, [.ref h1, .int 1, .int 0, .int 100, .int 7, .int 14, .int 3, .int 1, .int 8])), (h1, .inl (cI, 8, .inl (upd g0 0 2)))]) [0, 1] rfl
  have hD9 := hD.sub (ws' := [(h0, .inr (5, [.ref h1, .int 1, .int 0, .int 100, .int 7, .int 14, .int 3, .int 1, .int 8])), (h1, .inl (cI, 8, .inl (upd g0 0 2)))]) [0, 1] (by decide) rfl
  exact W.vret hx hb hr (fun t ht hW => ⟨⟨(), rfl, trivial, by rw [ht]; exact hP9, va_K.moved hW.alike hK, hD9⟩, hS.F ht⟩) hS.2.2 dX5_sayNothing_51

set_option maxHeartbeats 4000000 in
set_option maxRecDepth 100000 in
/-- Statutes() -/
theorem k_X5_init (l : Launch) (D : va_G) (cB cI cJ cZ : ClassId) (sz : Nat) (h0 : Nat) : Met l yX5_init wsX5_init ({ frames := 1, cells := 1, slots := 8, locals := 28 } : Room) (cPre D (aTy cB cI cJ cZ) [(h0, .inr (5, [.null, .int 0, .int 0, .int 0, .int 0, .int 0, .int 0, .int 0, .int 0]))] sz [.ref h0]) (va_Qv (fun (u : Nat) => True) (cB_ D (aTy cB cI cJ cZ) (va_A [(h0, .inr (5, [.null, .int 0, .int 0, .int 0, .int 0, .int 0, .int 0, .int 0, .int 0]))] sz) (fun q => [(h0, .inr (5, [.ref q, .int 1, .int 0, .int 100, .int 7, .int 14, .int 3, .int 1, .int 8])), (q, .inl (cI, 8, .inl cyc0))])) (va_A [(h0, .inr (5, [.null, .int 0, .int 0, .int 0, .int 0, .int 0, .int 0, .int 0, .int 0]))] sz)) 1 8 (va_A [(h0, .inr (5, [.null, .int 0, .int 0, .int 0, .int 0, .int 0, .int 0, .int 0, .int 0]))] sz) := by
  refine Met.ofW (cc := cX5_init) (maxL := 1) (ret := none) (by decide) rfl ?_
  intro p e s m args below meth c s₁ B hml hv
  obtain ⟨rfl, hsz, hP, hK, hD0⟩ := hv
  have hx := B.exec
  have hb := B.bytes
  have hr := B.returns
  have hts := atoms_spec (ws := wsX5_init) B.pre
  have hown : s.vm.findClass RX5 = some m.cls := findClass_of_methodNamed B.named
  have hlocks := B.notSynchronized
  have hin : meth.name = "<init>" := (name_of_methodNamed B.named B.method).1
  subst hsz
  have hD := hD0.self (sz := s.heap.size)
  generalize hAe : va_A [(h0, .inr (5, [.null, .int 0, .int 0, .int 0, .int 0, .int 0, .int 0, .int 0, .int 0]))] s.heap.size = A at hD ⊢
  have hA : ∀ q : Nat, s.heap.size ≤ q → A q := fun q h => by rw [← hAe]; exact Or.inr h
  have hS : va_S A s.heap s.heap [] := va_S.rf
  have hP : va_P D vwCl [(h0, .inr (5, [.null, .int 0, .int 0, .int 0, .int 0, .int 0, .int 0, .int 0, .int 0]))] s.heap := hP
  have w_1 := hts (Cond.methodLink RX5 3 objectInit) (by decide +kernel)
  have w_2 := hts (Cond.instanceMethod objectInit) (by decide +kernel)
  have w_3 := hts (Cond.code objectInit ⟨#[0xb1]⟩ 1 none) (by decide +kernel)
  have w_4 := hts (Cond.arrayClass .int) (by decide +kernel)
  have w_5 : ∀ w ∈ wsX50, w ∈ wsX5_init := by decide +kernel
  have w_6 := hts (Cond.fieldLink RX5 11 "BlueCoats$Statutes" "cycle" "[I") (by decide +kernel)
  have hl := lv_entry ([.ref h0]) (n := 1) (Nat.le_of_ble_eq_true rfl)
  rw [lg_entry_eq]
  generalize (lg_sl ([.ref h0]) ++ List.replicate (1 - (lg_sl ([.ref h0])).length) Slot.unset).toArray = ls at hl ⊢
  have hl : lv_has ls 1 [(0, .ref h0)] := hl
  refine lv_aload_n hx hb dX5_init_0 rfl (lv_at hl 0 rfl) ?_
  refine W.objInit hx hb hown w_1 w_2 w_3 rfl (by rw [hml]; exact hl.1) rfl dX5_init_1 (Nat.le_of_ble_eq_true rfl) (Nat.le_of_ble_eq_true rfl) ?_
  refine W.eq (g2 := F0 m 4 ls []) rfl ?_
  refine lv_aload_n hx hb dX5_init_4 rfl (lv_at hl 0 rfl) ?_
  refine lv_bipush (v := 8) hx hb dX5_init_5 (by decide) ?_
  refine sv_newa (atype := .int) (ty := .int) (cA := cI) (a0 := (8, .inl (fun _ => 0))) (N' := 8) hx hb w_4 rfl rfl hK hP hD hS hA 1 rfl (fun _ => rfl) (by decide) (by decide) (by decide) (Nat.le_of_ble_eq_true rfl) (Nat.le_of_ble_eq_true rfl) 1 8 rfl rfl dX5_init_7 (fun q_1 H hP hD hS => ?_)
  have hP : va_P D vwCl [(h0, .inr (5, [.null, .int 0, .int 0, .int 0, .int 0, .int 0, .int 0, .int 0, .int 0])), (q_1, .inl (cI, 8, .inl (fun _ => 0)))] H := hP
  have hD : va_D A [(h0, .inr (5, [.null, .int 0, .int 0, .int 0, .int 0, .int 0, .int 0, .int 0, .int 0])), (q_1, .inl (cI, 8, .inl (fun _ => 0)))] := hD
  refine va_putF (D := D) (ci := 5) (v := .ref q_1) (ty := .array .int) (C := RX5) (T := TX5) (N := 9) hx hb hts w_5 tyX5 tyX5_ok nmX5 hown hK hP hD hS 0 rfl rfl 0 (by decide) w_6 (fun _ h9 => h9) rfl hin rfl (by decide +kernel) rfl rfl (Nat.le_of_ble_eq_true rfl) dX5_init_9 (fun H locs hP hD hS => ?_)
  have hP : va_P D vwCl [(h0, .inr (5, [.ref q_1, .int 0, .int 0, .int 0, .int 0, .int 0, .int 0, .int 0, .int 0])), (q_1, .inl (cI, 8, .inl (fun _ => 0)))] H := hP
  have hD : va_D A [(h0, .inr (5, [.ref q_1, .int 0, .int 0, .int 0, .int 0, .int 0, .int 0, .int 0, .int 0])), (q_1, .inl (cI, 8, .inl (fun _ => 0)))] := hD
  refine lv_aload_n hx hb dX5_init_12 rfl (lv_at hl 0 rfl) ?_
  refine cl_v (wc := [(h0, .inr (5, [.ref q_1, .int 0, .int 0, .int 0, .int 0, .int 0, .int 0, .int 0, .int 0])), (q_1, .inl (cI, 8, .inl (fun _ => 0)))]) (wr := []) (va_runV (As := []) (rest := []) ⟨hx, hb, hml, hown, hts⟩ (k_X5_say l D cB cI cJ cZ H.size h0 q_1 0 0 0 0 0 0 0 0 (fun _ => 0)) (cwV 0 hts gX5_init_X5_sayNothing rfl rfl rfl (by decide +kernel) ⟨Nat.le_of_ble_eq_true rfl, Nat.le_of_ble_eq_true rfl⟩) (pre_V (hP.sub (ws' := [(h0, .inr (5, [.ref q_1, .int 0, .int 0, .int 0, .int 0, .int 0, .int 0, .int 0, .int 0])), (q_1, .inl (cI, 8, .inl (fun _ => 0)))]) [0, 1] rfl) hK (hD.sub (ws' := [(h0, .inr (5, [.ref q_1, .int 0, .int 0, .int 0, .int 0, .int 0, .int 0, .int 0, .int 0])), (q_1, .inl (cI, 8, .inl (fun _ => 0)))]) [0, 1] (by decide) rfl) 0 rfl rfl rfl) rfl rfl hl.1 rfl (lv_room (Nat.le_of_ble_eq_true rfl)) dX5_init_13 ⟨Nat.le_of_ble_eq_true rfl, Nat.le_of_ble_eq_true rfl⟩) hP hD hS hA [0, 1] [] rfl rfl (by decide) (by decide) 1 8 rfl rfl (fun u_3 H locs hw_u_3 hP hD hS => ?_)
  have hP : va_P D vwCl [(h0, .inr (5, [.ref q_1, .int 1, .int 0, .int 100, .int 7, .int 14, .int 3, .int 1, .int 8])), (q_1, .inl (cI, 8, .inl cyc0))] H := hP
  have hD : va_D A [(h0, .inr (5, [.ref q_1, .int 1, .int 0, .int 100, .int 7, .int 14, .int 3, .int 1, .int 8])), (q_1, .inl (cI, 8, .inl cyc0))] := hD
  have hP9 := hP.sub (ws' := [(h0, .inr (5, [.ref q_1, .int 1, .int 0, .int 100, .int 7, .int 14, .int 3, .int 1, .int 8])), (q_1, .inl (cI, 8, .inl cyc0))]) [0, 1] rfl
  have hD9 := hD.sub (ws' := [(h0, .inr (5, [.ref q_1, .int 1, .int 0, .int 100, .int 7, .int 14, .int 3, .int 1, .int 8])), (q_1, .inl (cI, 8, .inl cyc0))]) [0, 1] (by decide) rfl
  exact W.vret hx hb hr (fun t ht hW => ⟨⟨q_1, rfl, trivial, by rw [ht]; exact hP9, va_K.moved hW.alike hK, hD9⟩, hS.F ht⟩) hS.2.2 dX5_init_16

set_option maxHeartbeats 4000000 in
set_option maxRecDepth 100000 in
/-- Reader() -/
theorem k_X4_init (l : Launch) (D : va_G) (cB cI cJ cZ : ClassId) (sz : Nat) (h0 : Nat) : Met l yX4_init wsX4_init ({ frames := 2, cells := 3, slots := 317, locals := 48 } : Room) (cPre D (aTy cB cI cJ cZ) [(h0, .inr (4, [.null, .int 0, .int 0, .int 0, .null, .int 0, .int 0, .int 0, .int 0, .int 0, .int 0]))] sz [.ref h0]) (va_Qv (fun (u : Nat → Nat) => True) (cB_ D (aTy cB cI cJ cZ) (va_A [(h0, .inr (4, [.null, .int 0, .int 0, .int 0, .null, .int 0, .int 0, .int 0, .int 0, .int 0, .int 0]))] sz) (fun q => [(h0, .inr (4, [.ref (q 0), .int 0, .int (-1), .int 0, .ref (q 2), .int 0, .int 0, .int 0, .int 0, .int 0, .int 0])), ((q 0), .inr (5, [.ref (q 1), .int 1, .int 0, .int 100, .int 7, .int 14, .int 3, .int 1, .int 8])), ((q 1), .inl (cI, 8, .inl cyc0)), ((q 2), .inl (cB, 300, .inl (fun _ => 0)))])) (va_A [(h0, .inr (4, [.null, .int 0, .int 0, .int 0, .null, .int 0, .int 0, .int 0, .int 0, .int 0, .int 0]))] sz)) 3 317 (va_A [(h0, .inr (4, [.null, .int 0, .int 0, .int 0, .null, .int 0, .int 0, .int 0, .int 0, .int 0, .int 0]))] sz) := by
  refine Met.ofW (cc := cX4_init) (maxL := 1) (ret := none) (by decide) rfl ?_
  intro p e s m args below meth c s₁ B hml hv
  obtain ⟨rfl, hsz, hP, hK, hD0⟩ := hv
  have hx := B.exec
  have hb := B.bytes
  have hr := B.returns
  have hts := atoms_spec (ws := wsX4_init) B.pre
  have hown : s.vm.findClass RX4 = some m.cls := findClass_of_methodNamed B.named
  have hlocks := B.notSynchronized
  have hin : meth.name = "<init>" := (name_of_methodNamed B.named B.method).1
  subst hsz
  have hD := hD0.self (sz := s.heap.size)
  generalize hAe : va_A [(h0, .inr (4, [.null, .int 0, .int 0, .int 0, .null, .int 0, .int 0, .int 0, .int 0, .int 0, .int 0]))] s.heap.size = A at hD ⊢
  have hA : ∀ q : Nat, s.heap.size ≤ q → A q := fun q h => by rw [← hAe]; exact Or.inr h
  have hS : va_S A s.heap s.heap [] := va_S.rf
  have hP : va_P D vwCl [(h0, .inr (4, [.null, .int 0, .int 0, .int 0, .null, .int 0, .int 0, .int 0, .int 0, .int 0, .int 0]))] s.heap := hP
  have w_1 := hts (Cond.methodLink RX4 3 objectInit) (by decide +kernel)
  have w_2 := hts (Cond.instanceMethod objectInit) (by decide +kernel)
  have w_3 := hts (Cond.code objectInit ⟨#[0xb1]⟩ 1 none) (by decide +kernel)
  have w_4 : ∀ w ∈ wsX50, w ∈ wsX4_init := by decide +kernel
  have w_5 := hts (Cond.classLink RX4 9 RX5) (by decide +kernel)
  have w_6 := hts (Cond.instantiable RX5 9) (by decide +kernel)
  have w_7 := hts (Cond.initialized RX5) (by decide +kernel)
  have w_8 := hts (Cond.methodLink RX4 11 yX5_init) (by decide +kernel)
  have w_9 := hts (Cond.instanceMethod yX5_init) (by decide +kernel)
  have w_10 : ∀ w ∈ wsX40, w ∈ wsX4_init := by decide +kernel
  have w_11 := hts (Cond.fieldLink RX4 12 "BlueCoats$Reader" "draft" "LBlueCoats$Statutes;") (by decide +kernel)
  have w_12 := hts (Cond.fieldLink RX4 18 "BlueCoats$Reader" "fault" "I") (by decide +kernel)
  have w_13 := hts (Cond.fieldLink RX4 22 "BlueCoats$Reader" "faultPlace" "I") (by decide +kernel)
  have w_14 := hts (Cond.arrayClass .byte) (by decide +kernel)
  have w_15 := hts (Cond.fieldLink RX4 25 "BlueCoats$Reader" "tape" "[B") (by decide +kernel)
  have hl := lv_entry ([.ref h0]) (n := 1) (Nat.le_of_ble_eq_true rfl)
  rw [lg_entry_eq]
  generalize (lg_sl ([.ref h0]) ++ List.replicate (1 - (lg_sl ([.ref h0])).length) Slot.unset).toArray = ls at hl ⊢
  have hl : lv_has ls 1 [(0, .ref h0)] := hl
  refine lv_aload_n hx hb dX4_init_0 rfl (lv_at hl 0 rfl) ?_
  refine W.objInit hx hb hown w_1 w_2 w_3 rfl (by rw [hml]; exact hl.1) rfl dX4_init_1 (Nat.le_of_ble_eq_true rfl) (Nat.le_of_ble_eq_true rfl) ?_
  refine W.eq (g2 := F0 m 4 ls []) rfl ?_
  refine lv_aload_n hx hb dX4_init_4 rfl (lv_at hl 0 rfl) ?_
  refine va_new (ci := 5) (fs := [.null, .int 0, .int 0, .int 0, .int 0, .int 0, .int 0, .int 0, .int 0]) (C := RX5) (T := TX5) (N := 9) hx hb hts w_4 tyX5 tyX5_ok hown w_5 w_6 w_7 hK hP hD hS hA rfl (nwX5) (Nat.le_of_ble_eq_true rfl) (Nat.le_of_ble_eq_true rfl) dX4_init_5 (fun q_1 H hP hD hS => ?_)
  have hP : va_P D vwCl [(h0, .inr (4, [.null, .int 0, .int 0, .int 0, .null, .int 0, .int 0, .int 0, .int 0, .int 0, .int 0])), (q_1, .inr (5, [.null, .int 0, .int 0, .int 0, .int 0, .int 0, .int 0, .int 0, .int 0]))] H := hP
  have hD : va_D A [(h0, .inr (4, [.null, .int 0, .int 0, .int 0, .null, .int 0, .int 0, .int 0, .int 0, .int 0, .int 0])), (q_1, .inr (5, [.null, .int 0, .int 0, .int 0, .int 0, .int 0, .int 0, .int 0, .int 0]))] := hD
  refine W.widen (k := 1) (n := 9) (Nat.le_refl _) (Nat.le_refl _) ?_
  refine lv_dup hx hb dX4_init_8 rfl ?_
  refine cl_v (wc := [(q_1, .inr (5, [.null, .int 0, .int 0, .int 0, .int 0, .int 0, .int 0, .int 0, .int 0]))]) (wr := [(h0, .inr (4, [.null, .int 0, .int 0, .int 0, .null, .int 0, .int 0, .int 0, .int 0, .int 0, .int 0]))]) (va_runI (As := []) (rest := [.ref q_1, .ref h0]) ⟨hx, hb, hml, hown, hts⟩ (k_X5_init l D cB cI cJ cZ H.size q_1) (cwI 0 hts gX4_init_X5_init rfl rfl rfl w_7 w_8 w_9 rfl (by decide +kernel) ⟨Nat.le_of_ble_eq_true rfl, Nat.le_of_ble_eq_true rfl⟩) (pre_I (hP.sub (ws' := [(q_1, .inr (5, [.null, .int 0, .int 0, .int 0, .int 0, .int 0, .int 0, .int 0, .int 0]))]) [1] rfl) hK (hD.sub (ws' := [(q_1, .inr (5, [.null, .int 0, .int 0, .int 0, .int 0, .int 0, .int 0, .int 0, .int 0]))]) [1] (by decide) rfl) rfl) rfl rfl hl.1 rfl (lv_room (Nat.le_of_ble_eq_true rfl)) dX4_init_9 ⟨Nat.le_of_ble_eq_true rfl, Nat.le_of_ble_eq_true rfl⟩) hP hD hS hA [1] [0] rfl rfl (by decide) (by decide) 2 17 rfl rfl (fun u_3 H locs hw_u_3 hP hD hS => ?_)
  have hP : va_P D vwCl [(h0, .inr (4, [.null, .int 0, .int 0, .int 0, .null, .int 0, .int 0, .int 0, .int 0, .int 0, .int 0])), (q_1, .inr (5, [.ref u_3, .int 1, .int 0, .int 100, .int 7, .int 14, .int 3, .int 1, .int 8])), (u_3, .inl (cI, 8, .inl cyc0))] H := hP
  have hD : va_D A [(h0, .inr (4, [.null, .int 0, .int 0, .int 0, .null, .int 0, .int 0, .int 0, .int 0, .int 0, .int 0])), (q_1, .inr (5, [.ref u_3, .int 1, .int 0, .int 100, .int 7, .int 14, .int 3, .int 1, .int 8])), (u_3, .inl (cI, 8, .inl cyc0))] := hD
  refine va_putF (D := D) (ci := 4) (v := .ref q_1) (ty := .object "BlueCoats$Statutes") (C := RX4) (T := TX4) (N := 11) hx hb hts w_10 tyX4 tyX4_ok nmX4 hown hK hP hD hS 0 rfl rfl 0 (by decide) w_11 (fun _ h9 => h9) rfl hin rfl (by decide +kernel) rfl rfl (Nat.le_of_ble_eq_true rfl) dX4_init_12 (fun H locs hP hD hS => ?_)
  have hP : va_P D vwCl [(h0, .inr (4, [.ref q_1, .int 0, .int 0, .int 0, .null, .int 0, .int 0, .int 0, .int 0, .int 0, .int 0])), (q_1, .inr (5, [.ref u_3, .int 1, .int 0, .int 100, .int 7, .int 14, .int 3, .int 1, .int 8])), (u_3, .inl (cI, 8, .inl cyc0))] H := hP
  have hD : va_D A [(h0, .inr (4, [.ref q_1, .int 0, .int 0, .int 0, .null, .int 0, .int 0, .int 0, .int 0, .int 0, .int 0])), (q_1, .inr (5, [.ref u_3, .int 1, .int 0, .int 100, .int 7, .int 14, .int 3, .int 1, .int 8])), (u_3, .inl (cI, 8, .inl cyc0))] := hD
  refine lv_aload_n hx hb dX4_init_15 rfl (lv_at hl 0 rfl) ?_
  refine lv_iconst (v := 0) hx hb dX4_init_16 (by decide) ?_
  refine va_put (D := D) (ci := 4) (v := .int 0) (ty := .int) (C := RX4) (T := TX4) (N := 11) hx hb hts w_10 tyX4 tyX4_ok nmX4 hown hK hP hD hS 0 rfl rfl 1 (by decide) w_12 (fun _ h9 => h9) rfl (by decide +kernel) rfl rfl (Nat.le_of_ble_eq_true rfl) dX4_init_17 (fun H locs hP hD hS => ?_)
  have hP : va_P D vwCl [(h0, .inr (4, [.ref q_1, .int 0, .int 0, .int 0, .null, .int 0, .int 0, .int 0, .int 0, .int 0, .int 0])), (q_1, .inr (5, [.ref u_3, .int 1, .int 0, .int 100, .int 7, .int 14, .int 3, .int 1, .int 8])), (u_3, .inl (cI, 8, .inl cyc0))] H := hP
  have hD : va_D A [(h0, .inr (4, [.ref q_1, .int 0, .int 0, .int 0, .null, .int 0, .int 0, .int 0, .int 0, .int 0, .int 0])), (q_1, .inr (5, [.ref u_3, .int 1, .int 0, .int 100, .int 7, .int 14, .int 3, .int 1, .int 8])), (u_3, .inl (cI, 8, .inl cyc0))] := hD
  refine lv_aload_n hx hb dX4_init_20 rfl (lv_at hl 0 rfl) ?_
  refine lv_iconst (v := (-1)) hx hb dX4_init_21 (by decide) ?_
  refine va_put (D := D) (ci := 4) (v := .int (-1)) (ty := .int) (C := RX4) (T := TX4) (N := 11) hx hb hts w_10 tyX4 tyX4_ok nmX4 hown hK hP hD hS 0 rfl rfl 2 (by decide) w_13 (fun _ h9 => h9) rfl (by decide +kernel) rfl rfl (Nat.le_of_ble_eq_true rfl) dX4_init_22 (fun H locs hP hD hS => ?_)
  have hP : va_P D vwCl [(h0, .inr (4, [.ref q_1, .int 0, .int (-1), .int 0, .null, .int 0, .int 0, .int 0, .int 0, .int 0, .int 0])), (q_1, .inr (5, [.ref u_3, .int 1, .int 0, .int 100, .int 7, .int 14, .int 3, .int 1, .int 8])), (u_3, .inl (cI, 8, .inl cyc0))] H := hP
  have hD : va_D A [(h0, .inr (4, [.ref q_1, .int 0, .int (-1), .int 0, .null, .int 0, .int 0, .int 0, .int 0, .int 0, .int 0])), (q_1, .inr (5, [.ref u_3, .int 1, .int 0, .int 100, .int 7, .int 14, .int 3, .int 1, .int 8])), (u_3, .inl (cI, 8, .inl cyc0))] := hD
  refine lv_aload_n hx hb dX4_init_25 rfl (lv_at hl 0 rfl) ?_
  refine lv_sipush (v := 300) hx hb dX4_init_26 (by decide) ?_
  refine sv_newa (atype := .byte) (ty := .byte) (cA := cB) (a0 := (300, .inl (fun _ => 0))) (N' := 300) hx hb w_14 rfl rfl hK hP hD hS hA 0 rfl (fun _ => rfl) (by decide) (by decide) (by decide) (Nat.le_of_ble_eq_true rfl) (Nat.le_of_ble_eq_true rfl) 3 317 rfl rfl dX4_init_29 (fun q_4 H hP hD hS => ?_)
  have hP : va_P D vwCl [(h0, .inr (4, [.ref q_1, .int 0, .int (-1), .int 0, .null, .int 0, .int 0, .int 0, .int 0, .int 0, .int 0])), (q_1, .inr (5, [.ref u_3, .int 1, .int 0, .int 100, .int 7, .int 14, .int 3, .int 1, .int 8])), (u_3, .inl (cI, 8, .inl cyc0)), (q_4, .inl (cB, 300, .inl (fun _ => 0)))] H := hP
  have hD : va_D A [(h0, .inr (4, [.ref q_1, .int 0, .int (-1), .int 0, .null, .int 0, .int 0, .int 0, .int 0, .int 0, .int 0])), (q_1, .inr (5, [.ref u_3, .int 1, .int 0, .int 100, .int 7, .int 14, .int 3, .int 1, .int 8])), (u_3, .inl (cI, 8, .inl cyc0)), (q_4, .inl (cB, 300, .inl (fun _ => 0)))] := hD
  refine va_putF (D := D) (ci := 4) (v := .ref q_4) (ty := .array .byte) (C := RX4) (T := TX4) (N := 11) hx hb hts w_10 tyX4 tyX4_ok nmX4 hown hK hP hD hS 0 rfl rfl 4 (by decide) w_15 (fun _ h9 => h9) rfl hin rfl (by decide +kernel) rfl rfl (Nat.le_of_ble_eq_true rfl) dX4_init_31 (fun H locs hP hD hS => ?_)
  have hP : va_P D vwCl [(h0, .inr (4, [.ref q_1, .int 0, .int (-1), .int 0, .ref q_4, .int 0, .int 0, .int 0, .int 0, .int 0, .int 0])), (q_1, .inr (5, [.ref u_3, .int 1, .int 0, .int 100, .int 7, .int 14, .int 3, .int 1, .int 8])), (u_3, .inl (cI, 8, .inl cyc0)), (q_4, .inl (cB, 300, .inl (fun _ => 0)))] H := hP
  have hD : va_D A [(h0, .inr (4, [.ref q_1, .int 0, .int (-1), .int 0, .ref q_4, .int 0, .int 0, .int 0, .int 0, .int 0, .int 0])), (q_1, .inr (5, [.ref u_3, .int 1, .int 0, .int 100, .int 7, .int 14, .int 3, .int 1, .int 8])), (u_3, .inl (cI, 8, .inl cyc0)), (q_4, .inl (cB, 300, .inl (fun _ => 0)))] := hD
  have hP9 := hP.sub (ws' := [(h0, .inr (4, [.ref q_1, .int 0, .int (-1), .int 0, .ref q_4, .int 0, .int 0, .int 0, .int 0, .int 0, .int 0])), (q_1, .inr (5, [.ref u_3, .int 1, .int 0, .int 100, .int 7, .int 14, .int 3, .int 1, .int 8])), (u_3, .inl (cI, 8, .inl cyc0)), (q_4, .inl (cB, 300, .inl (fun _ => 0)))]) [0, 1, 2, 3] rfl
  have hD9 := hD.sub (ws' := [(h0, .inr (4, [.ref q_1, .int 0, .int (-1), .int 0, .ref q_4, .int 0, .int 0, .int 0, .int 0, .int 0, .int 0])), (q_1, .inr (5, [.ref u_3, .int 1, .int 0, .int 100, .int 7, .int 14, .int 3, .int 1, .int 8])), (u_3, .inl (cI, 8, .inl cyc0)), (q_4, .inl (cB, 300, .inl (fun _ => 0)))]) [0, 1, 2, 3] (by decide) rfl
  exact W.vret hx hb hr (fun t ht hW => ⟨⟨(fun k => ([q_1, u_3, q_4] : List Nat).getD k 0), rfl, trivial, by rw [ht]; exact hP9, va_K.moved hW.alike hK, hD9⟩, hS.F ht⟩) hS.2.2 dX4_init_34
end
section
abbrev freshX (cB cI cJ cZ : ClassId) (x : Nat → Nat) : va_W := [((x 0), .inr (7, [.ref (x 1), .ref (x 5), .ref (x 7), .ref (x 10), .ref (x 17), .ref (x 22), .ref (x 27), .int 0])), ((x 1), .inr (4, [.ref (x 2), .int 0, .int (-1), .int 0, .ref (x 4), .int 0, .int 0, .int 0, .int 0, .int 0, .int 0])), ((x 2), .inr (5, [.ref (x 3), .int 1, .int 0, .int 100, .int 7, .int 14, .int 3, .int 1, .int 8])), ((x 3), .inl (cI, 8, .inl cyc0)), ((x 4), .inl (cB, 300, .inl (fun _ => 0))), ((x 5), .inr (5, [.ref (x 6), .int 1, .int 0, .int 100, .int 7, .int 14, .int 3, .int 1, .int 8])), ((x 6), .inl (cI, 8, .inl cyc0)), ((x 7), .inr (3, [.ref (x 8), .ref (x 9), .int 0, .int 0])), ((x 8), .inl (cI, 8, .inl (fun _ => 0))), ((x 9), .inl (cI, 8, .inl (fun _ => 0))), ((x 10), .inr (1, [.ref (x 11), .ref (x 12), .ref (x 13), .ref (x 14), .ref (x 15), .ref (x 16), .int 0])), ((x 11), .inl (cI, 16, .inl (fun _ => 0))), ((x 12), .inl (cI, 16, .inl (fun _ => 0))), ((x 13), .inl (cI, 16, .inl (fun _ => 0))), ((x 14), .inl (cI, 16, .inl (fun _ => 0))), ((x 15), .inl (cI, 16, .inl (fun _ => 0))), ((x 16), .inl (cI, 16, .inl (fun _ => 0))), ((x 17), .inr (6, [.ref (x 18), .ref (x 19), .ref (x 20), .ref (x 21), .int 0])), ((x 18), .inl (cI, 40, .inl (fun _ => 0))), ((x 19), .inl (cI, 40, .inl (fun _ => 0))), ((x 20), .inl (cZ, 40, .inl (fun _ => 0))), ((x 21), .inl (cI, 40, .inl (fun _ => 0))), ((x 22), .inr (2, [.ref (x 23), .ref (x 24), .int 0, .ref (x 25), .ref (x 26), .int 0])), ((x 23), .inl (cI, 8, .inl (fun _ => 0))), ((x 24), .inl (cI, 8, .inl (fun _ => 0))), ((x 25), .inl (cI, 8, .inl (fun _ => 0))), ((x 26), .inl (cJ, 256, .inr (.inl (fun _ => 0)))), ((x 27), .inr (0, [.ref (x 28), .ref (x 29), .ref (x 30), .int 0, .int 0, .int 0, .ref (x 31), .ref (x 32), .ref (x 33)])), ((x 28), .inl (cI, 6, .inl (fun _ => 0))), ((x 29), .inl (cI, 6, .inl (fun _ => 0))), ((x 30), .inl (cI, 8, .inl (fun _ => 0))), ((x 31), .inl (cI, 8, .inl (fun _ => 0))), ((x 32), .inl (cI, 8, .inl (fun _ => 0))), ((x 33), .inl (cI, 64, .inl (fun _ => 0)))]
set_option maxHeartbeats 4000000 in
set_option maxRecDepth 100000 in
/-- BlueCoats() -/
theorem k_X7_init (l : Launch) (D : va_G) (cB cI cJ cZ : ClassId) (sz : Nat) (h0 : Nat) : Met l yX7_init wsX7_init ({ frames := 3, cells := 33, slots := 1028, locals := 68 } : Room) (va_Pc [.ref h0] (fun U => U.heap.size = sz ∧ va_P D vwCl [(h0, .inr (7, [.null, .null, .null, .null, .null, .null, .null, .int 0]))] U.heap ∧ va_K D vwCl (aTy cB cI cJ cZ) U ∧ va_D (fun _ => True) [(h0, .inr (7, [.null, .null, .null, .null, .null, .null, .null, .int 0]))] ∧ va_Nw (.methodLinkNest RX7 9 yX4_init RX7) U ∧ va_Nw (.methodLinkNest RX7 25 yX3_init RX7) U ∧ va_Nw (.methodLinkNest RX7 32 yX1_init RX7) U ∧ va_Nw (.methodLinkNest RX7 39 yX6_init RX7) U ∧ va_Nw (.methodLinkNest RX7 46 yX2_init RX7) U ∧ va_Nw (.methodLinkNest RX7 53 yX0_init RX7) U)) (va_Qv (fun (u : Nat → Nat) => u 0 = h0) (cB_ D (aTy cB cI cJ cZ) (va_A [(h0, .inr (7, [.null, .null, .null, .null, .null, .null, .null, .int 0]))] sz) (fun x => freshX cB cI cJ cZ x)) (va_A [(h0, .inr (7, [.null, .null, .null, .null, .null, .null, .null, .int 0]))] sz)) 33 1028 (va_A [(h0, .inr (7, [.null, .null, .null, .null, .null, .null, .null, .int 0]))] sz) := by
  refine Met.ofW (cc := cX7_init) (maxL := 1) (ret := none) (by decide) rfl ?_
  intro p e s m args below meth c s₁ B hml hv
  obtain ⟨rfl, hsz, hP, hK, hD0, hNw⟩ := hv
  have hx := B.exec
  have hb := B.bytes
  have hr := B.returns
  have hts := atoms_spec (ws := wsX7_init) B.pre
  have hown : s.vm.findClass RX7 = some m.cls := findClass_of_methodNamed B.named
  have hlocks := B.notSynchronized
  have hin : meth.name = "<init>" := (name_of_methodNamed B.named B.method).1
  subst hsz
  have hD := hD0.self (sz := s.heap.size)
  generalize hAe : va_A [(h0, .inr (7, [.null, .null, .null, .null, .null, .null, .null, .int 0]))] s.heap.size = A at hD ⊢
  have hA : ∀ q : Nat, s.heap.size ≤ q → A q := fun q h => by rw [← hAe]; exact Or.inr h
  have hS : va_S A s.heap s.heap [] := va_S.rf
  have hP : va_P D vwCl [(h0, .inr (7, [.null, .null, .null, .null, .null, .null, .null, .int 0]))] s.heap := hP
  have w_1 := hts (Cond.methodLink RX7 1 objectInit) (by decide +kernel)
  have w_2 := hts (Cond.instanceMethod objectInit) (by decide +kernel)
  have w_3 := hts (Cond.code objectInit ⟨#[0xb1]⟩ 1 none) (by decide +kernel)
  have w_4 : ∀ w ∈ wsX40, w ∈ wsX7_init := by decide +kernel
  have w_5 := hts (Cond.classLink RX7 7 RX4) (by decide +kernel)
  have w_6 := hts (Cond.instantiable RX4 11) (by decide +kernel)
  have w_7 := hts (Cond.initialized RX4) (by decide +kernel)
  have w_8 := hts (Cond.instanceMethod yX4_init) (by decide +kernel)
  have w_9 : ∀ w ∈ wsX70, w ∈ wsX7_init := by decide +kernel
  have w_10 := hts (Cond.fieldLink RX7 10 "BlueCoats" "reader" "LBlueCoats$Reader;") (by decide +kernel)
  have w_11 : ∀ w ∈ wsX50, w ∈ wsX7_init := by decide +kernel
  have w_12 := hts (Cond.classLink RX7 16 RX5) (by decide +kernel)
  have w_13 := hts (Cond.instantiable RX5 9) (by decide +kernel)
  have w_14 := hts (Cond.initialized RX5) (by decide +kernel)
  have w_15 := hts (Cond.methodLink RX7 18 yX5_init) (by decide +kernel)
  have w_16 := hts (Cond.instanceMethod yX5_init) (by decide +kernel)
  have w_17 := hts (Cond.fieldLink RX7 19 "BlueCoats" "law" "LBlueCoats$Statutes;") (by decide +kernel)
  have w_18 : ∀ w ∈ wsX30, w ∈ wsX7_init := by decide +kernel
  have w_19 := hts (Cond.classLink RX7 23 RX3) (by decide +kernel)
  have w_20 := hts (Cond.instantiable RX3 4) (by decide +kernel)
  have w_21 := hts (Cond.initialized RX3) (by decide +kernel)
  have w_22 := hts (Cond.instanceMethod yX3_init) (by decide +kernel)
  have w_23 := hts (Cond.fieldLink RX7 26 "BlueCoats" "givers" "LBlueCoats$Givers;") (by decide +kernel)
  have w_24 : ∀ w ∈ wsX10, w ∈ wsX7_init := by decide +kernel
  have w_25 := hts (Cond.classLink RX7 30 RX1) (by decide +kernel)
  have w_26 := hts (Cond.instantiable RX1 7) (by decide +kernel)
  have w_27 := hts (Cond.initialized RX1) (by decide +kernel)
  have w_28 := hts (Cond.instanceMethod yX1_init) (by decide +kernel)
  have w_29 := hts (Cond.fieldLink RX7 33 "BlueCoats" "children" "LBlueCoats$Children;") (by decide +kernel)
  have w_30 : ∀ w ∈ wsX60, w ∈ wsX7_init := by decide +kernel
  have w_31 := hts (Cond.classLink RX7 37 RX6) (by decide +kernel)
  have w_32 := hts (Cond.instantiable RX6 5) (by decide +kernel)
  have w_33 := hts (Cond.initialized RX6) (by decide +kernel)
  have w_34 := hts (Cond.instanceMethod yX6_init) (by decide +kernel)
  have w_35 := hts (Cond.fieldLink RX7 40 "BlueCoats" "wardrobe" "LBlueCoats$Wardrobe;") (by decide +kernel)
  have w_36 : ∀ w ∈ wsX20, w ∈ wsX7_init := by decide +kernel
  have w_37 := hts (Cond.classLink RX7 44 RX2) (by decide +kernel)
  have w_38 := hts (Cond.instantiable RX2 6) (by decide +kernel)
  have w_39 := hts (Cond.initialized RX2) (by decide +kernel)
  have w_40 := hts (Cond.instanceMethod yX2_init) (by decide +kernel)
  have w_41 := hts (Cond.fieldLink RX7 47 "BlueCoats" "dressing" "LBlueCoats$Dressing;") (by decide +kernel)
  have w_42 : ∀ w ∈ wsX00, w ∈ wsX7_init := by decide +kernel
  have w_43 := hts (Cond.classLink RX7 51 RX0) (by decide +kernel)
  have w_44 := hts (Cond.instantiable RX0 9) (by decide +kernel)
  have w_45 := hts (Cond.initialized RX0) (by decide +kernel)
  have w_46 := hts (Cond.instanceMethod yX0_init) (by decide +kernel)
  have w_47 := hts (Cond.fieldLink RX7 54 "BlueCoats" "chest" "LBlueCoats$Chest;") (by decide +kernel)
  have w_48 := hts (Cond.fieldLink RX7 58 "BlueCoats" "years" "I") (by decide +kernel)
  have hl := lv_entry ([.ref h0]) (n := 1) (Nat.le_of_ble_eq_true rfl)
  rw [lg_entry_eq]
  generalize (lg_sl ([.ref h0]) ++ List.replicate (1 - (lg_sl ([.ref h0])).length) Slot.unset).toArray = ls at hl ⊢
  have hl : lv_has ls 1 [(0, .ref h0)] := hl
  refine lv_aload_n hx hb dX7_init_0 rfl (lv_at hl 0 rfl) ?_
  refine W.objInit hx hb hown w_1 w_2 w_3 rfl (by rw [hml]; exact hl.1) rfl dX7_init_1 (Nat.le_of_ble_eq_true rfl) (Nat.le_of_ble_eq_true rfl) ?_
  refine W.eq (g2 := F0 m 4 ls []) rfl ?_
  refine lv_aload_n hx hb dX7_init_4 rfl (lv_at hl 0 rfl) ?_
  refine va_new (ci := 4) (fs := [.null, .int 0, .int 0, .int 0, .null, .int 0, .int 0, .int 0, .int 0, .int 0, .int 0]) (C := RX4) (T := TX4) (N := 11) hx hb hts w_4 tyX4 tyX4_ok hown w_5 w_6 w_7 hK hP hD hS hA rfl (nwX4) (Nat.le_of_ble_eq_true rfl) (Nat.le_of_ble_eq_true rfl) dX7_init_5 (fun q_1 H hP hD hS => ?_)
  have hP : va_P D vwCl [(h0, .inr (7, [.null, .null, .null, .null, .null, .null, .null, .int 0])), (q_1, .inr (4, [.null, .int 0, .int 0, .int 0, .null, .int 0, .int 0, .int 0, .int 0, .int 0, .int 0]))] H := hP
  have hD : va_D A [(h0, .inr (7, [.null, .null, .null, .null, .null, .null, .null, .int 0])), (q_1, .inr (4, [.null, .int 0, .int 0, .int 0, .null, .int 0, .int 0, .int 0, .int 0, .int 0, .int 0]))] := hD
  refine W.widen (k := 1) (n := 11) (Nat.le_refl _) (Nat.le_refl _) ?_
  refine lv_dup hx hb dX7_init_8 rfl ?_
  refine cl_v (wc := [(q_1, .inr (4, [.null, .int 0, .int 0, .int 0, .null, .int 0, .int 0, .int 0, .int 0, .int 0, .int 0]))]) (wr := [(h0, .inr (7, [.null, .null, .null, .null, .null, .null, .null, .int 0]))]) (va_runIN (As := []) (rest := [.ref q_1, .ref h0]) ⟨hx, hb, hml, hown, hts⟩ (k_X4_init l D cB cI cJ cZ H.size q_1) ⟨va_cnB 0 hts gX7_init_X4_init_n9 rfl rfl rfl hNw.1 w_7 (by decide +kernel) ⟨Nat.le_of_ble_eq_true rfl, Nat.le_of_ble_eq_true rfl⟩, rfl, w_8⟩ (pre_I (hP.sub (ws' := [(q_1, .inr (4, [.null, .int 0, .int 0, .int 0, .null, .int 0, .int 0, .int 0, .int 0, .int 0, .int 0]))]) [1] rfl) hK (hD.sub (ws' := [(q_1, .inr (4, [.null, .int 0, .int 0, .int 0, .null, .int 0, .int 0, .int 0, .int 0, .int 0, .int 0]))]) [1] (by decide) rfl) rfl) rfl rfl hl.1 rfl (lv_room (Nat.le_of_ble_eq_true rfl)) dX7_init_9 ⟨Nat.le_of_ble_eq_true rfl, Nat.le_of_ble_eq_true rfl⟩) hP hD hS hA [1] [0] rfl rfl (by decide) (by decide) 4 328 rfl rfl (fun u_3 H locs hw_u_3 hP hD hS => ?_)
  have hP : va_P D vwCl [(h0, .inr (7, [.null, .null, .null, .null, .null, .null, .null, .int 0])), (q_1, .inr (4, [.ref (u_3 0), .int 0, .int (-1), .int 0, .ref (u_3 2), .int 0, .int 0, .int 0, .int 0, .int 0, .int 0])), ((u_3 0), .inr (5, [.ref (u_3 1), .int 1, .int 0, .int 100, .int 7, .int 14, .int 3, .int 1, .int 8])), ((u_3 1), .inl (cI, 8, .inl cyc0)), ((u_3 2), .inl (cB, 300, .inl (fun _ => 0)))] H := hP
  have hD : va_D A [(h0, .inr (7, [.null, .null, .null, .null, .null, .null, .null, .int 0])), (q_1, .inr (4, [.ref (u_3 0), .int 0, .int (-1), .int 0, .ref (u_3 2), .int 0, .int 0, .int 0, .int 0, .int 0, .int 0])), ((u_3 0), .inr (5, [.ref (u_3 1), .int 1, .int 0, .int 100, .int 7, .int 14, .int 3, .int 1, .int 8])), ((u_3 1), .inl (cI, 8, .inl cyc0)), ((u_3 2), .inl (cB, 300, .inl (fun _ => 0)))] := hD
  refine va_putF (D := D) (ci := 7) (v := .ref q_1) (ty := .object "BlueCoats$Reader") (C := RX7) (T := TX7) (N := 8) hx hb hts w_9 tyX7 tyX7_ok nmX7 hown hK hP hD hS 0 rfl rfl 0 (by decide) w_10 (fun _ h9 => h9) rfl hin rfl (by decide +kernel) rfl rfl (Nat.le_of_ble_eq_true rfl) dX7_init_12 (fun H locs hP hD hS => ?_)
  have hP : va_P D vwCl [(h0, .inr (7, [.ref q_1, .null, .null, .null, .null, .null, .null, .int 0])), (q_1, .inr (4, [.ref (u_3 0), .int 0, .int (-1), .int 0, .ref (u_3 2), .int 0, .int 0, .int 0, .int 0, .int 0, .int 0])), ((u_3 0), .inr (5, [.ref (u_3 1), .int 1, .int 0, .int 100, .int 7, .int 14, .int 3, .int 1, .int 8])), ((u_3 1), .inl (cI, 8, .inl cyc0)), ((u_3 2), .inl (cB, 300, .inl (fun _ => 0)))] H := hP
  have hD : va_D A [(h0, .inr (7, [.ref q_1, .null, .null, .null, .null, .null, .null, .int 0])), (q_1, .inr (4, [.ref (u_3 0), .int 0, .int (-1), .int 0, .ref (u_3 2), .int 0, .int 0, .int 0, .int 0, .int 0, .int 0])), ((u_3 0), .inr (5, [.ref (u_3 1), .int 1, .int 0, .int 100, .int 7, .int 14, .int 3, .int 1, .int 8])), ((u_3 1), .inl (cI, 8, .inl cyc0)), ((u_3 2), .inl (cB, 300, .inl (fun _ => 0)))] := hD
  refine lv_aload_n hx hb dX7_init_15 rfl (lv_at hl 0 rfl) ?_
  refine va_new (ci := 5) (fs := [.null, .int 0, .int 0, .int 0, .int 0, .int 0, .int 0, .int 0, .int 0]) (C := RX5) (T := TX5) (N := 9) hx hb hts w_11 tyX5 tyX5_ok hown w_12 w_13 w_14 hK hP hD hS hA rfl (nwX5) (Nat.le_of_ble_eq_true rfl) (Nat.le_of_ble_eq_true rfl) dX7_init_16 (fun q_4 H hP hD hS => ?_)
  have hP : va_P D vwCl [(h0, .inr (7, [.ref q_1, .null, .null, .null, .null, .null, .null, .int 0])), (q_1, .inr (4, [.ref (u_3 0), .int 0, .int (-1), .int 0, .ref (u_3 2), .int 0, .int 0, .int 0, .int 0, .int 0, .int 0])), ((u_3 0), .inr (5, [.ref (u_3 1), .int 1, .int 0, .int 100, .int 7, .int 14, .int 3, .int 1, .int 8])), ((u_3 1), .inl (cI, 8, .inl cyc0)), ((u_3 2), .inl (cB, 300, .inl (fun _ => 0))), (q_4, .inr (5, [.null, .int 0, .int 0, .int 0, .int 0, .int 0, .int 0, .int 0, .int 0]))] H := hP
  have hD : va_D A [(h0, .inr (7, [.ref q_1, .null, .null, .null, .null, .null, .null, .int 0])), (q_1, .inr (4, [.ref (u_3 0), .int 0, .int (-1), .int 0, .ref (u_3 2), .int 0, .int 0, .int 0, .int 0, .int 0, .int 0])), ((u_3 0), .inr (5, [.ref (u_3 1), .int 1, .int 0, .int 100, .int 7, .int 14, .int 3, .int 1, .int 8])), ((u_3 1), .inl (cI, 8, .inl cyc0)), ((u_3 2), .inl (cB, 300, .inl (fun _ => 0))), (q_4, .inr (5, [.null, .int 0, .int 0, .int 0, .int 0, .int 0, .int 0, .int 0, .int 0]))] := hD
  refine W.widen (k := 5) (n := 337) (Nat.le_refl _) (Nat.le_refl _) ?_
  refine lv_dup hx hb dX7_init_19 rfl ?_
  refine cl_v (wc := [(q_4, .inr (5, [.null, .int 0, .int 0, .int 0, .int 0, .int 0, .int 0, .int 0, .int 0]))]) (wr := [(h0, .inr (7, [.ref q_1, .null, .null, .null, .null, .null, .null, .int 0])), (q_1, .inr (4, [.ref (u_3 0), .int 0, .int (-1), .int 0, .ref (u_3 2), .int 0, .int 0, .int 0, .int 0, .int 0, .int 0])), ((u_3 0), .inr (5, [.ref (u_3 1), .int 1, .int 0, .int 100, .int 7, .int 14, .int 3, .int 1, .int 8])), ((u_3 1), .inl (cI, 8, .inl cyc0)), ((u_3 2), .inl (cB, 300, .inl (fun _ => 0)))]) (va_runI (As := []) (rest := [.ref q_4, .ref h0]) ⟨hx, hb, hml, hown, hts⟩ (k_X5_init l D cB cI cJ cZ H.size q_4) (cwI 0 hts gX7_init_X5_init rfl rfl rfl w_14 w_15 w_16 rfl (by decide +kernel) ⟨Nat.le_of_ble_eq_true rfl, Nat.le_of_ble_eq_true rfl⟩) (pre_I (hP.sub (ws' := [(q_4, .inr (5, [.null, .int 0, .int 0, .int 0, .int 0, .int 0, .int 0, .int 0, .int 0]))]) [5] rfl) hK (hD.sub (ws' := [(q_4, .inr (5, [.null, .int 0, .int 0, .int 0, .int 0, .int 0, .int 0, .int 0, .int 0]))]) [5] (by decide) rfl) rfl) rfl rfl hl.1 rfl (lv_room (Nat.le_of_ble_eq_true rfl)) dX7_init_20 ⟨Nat.le_of_ble_eq_true rfl, Nat.le_of_ble_eq_true rfl⟩) hP hD hS hA [5] [0, 1, 2, 3, 4] rfl rfl (by decide) (by decide) 6 345 rfl rfl (fun u_6 H locs hw_u_6 hP hD hS => ?_)
  have hP : va_P D vwCl [(h0, .inr (7, [.ref q_1, .null, .null, .null, .null, .null, .null, .int 0])), (q_1, .inr (4, [.ref (u_3 0), .int 0, .int (-1), .int 0, .ref (u_3 2), .int 0, .int 0, .int 0, .int 0, .int 0, .int 0])), ((u_3 0), .inr (5, [.ref (u_3 1), .int 1, .int 0, .int 100, .int 7, .int 14, .int 3, .int 1, .int 8])), ((u_3 1), .inl (cI, 8, .inl cyc0)), ((u_3 2), .inl (cB, 300, .inl (fun _ => 0))), (q_4, .inr (5, [.ref u_6, .int 1, .int 0, .int 100, .int 7, .int 14, .int 3, .int 1, .int 8])), (u_6, .inl (cI, 8, .inl cyc0))] H := hP
  have hD : va_D A [(h0, .inr (7, [.ref q_1, .null, .null, .null, .null, .null, .null, .int 0])), (q_1, .inr (4, [.ref (u_3 0), .int 0, .int (-1), .int 0, .ref (u_3 2), .int 0, .int 0, .int 0, .int 0, .int 0, .int 0])), ((u_3 0), .inr (5, [.ref (u_3 1), .int 1, .int 0, .int 100, .int 7, .int 14, .int 3, .int 1, .int 8])), ((u_3 1), .inl (cI, 8, .inl cyc0)), ((u_3 2), .inl (cB, 300, .inl (fun _ => 0))), (q_4, .inr (5, [.ref u_6, .int 1, .int 0, .int 100, .int 7, .int 14, .int 3, .int 1, .int 8])), (u_6, .inl (cI, 8, .inl cyc0))] := hD
  refine va_putF (D := D) (ci := 7) (v := .ref q_4) (ty := .object "BlueCoats$Statutes") (C := RX7) (T := TX7) (N := 8) hx hb hts w_9 tyX7 tyX7_ok nmX7 hown hK hP hD hS 0 rfl rfl 1 (by decide) w_17 (fun _ h9 => h9) rfl hin rfl (by decide +kernel) rfl rfl (Nat.le_of_ble_eq_true rfl) dX7_init_23 (fun H locs hP hD hS => ?_)
  have hP : va_P D vwCl [(h0, .inr (7, [.ref q_1, .ref q_4, .null, .null, .null, .null, .null, .int 0])), (q_1, .inr (4, [.ref (u_3 0), .int 0, .int (-1), .int 0, .ref (u_3 2), .int 0, .int 0, .int 0, .int 0, .int 0, .int 0])), ((u_3 0), .inr (5, [.ref (u_3 1), .int 1, .int 0, .int 100, .int 7, .int 14, .int 3, .int 1, .int 8])), ((u_3 1), .inl (cI, 8, .inl cyc0)), ((u_3 2), .inl (cB, 300, .inl (fun _ => 0))), (q_4, .inr (5, [.ref u_6, .int 1, .int 0, .int 100, .int 7, .int 14, .int 3, .int 1, .int 8])), (u_6, .inl (cI, 8, .inl cyc0))] H := hP
  have hD : va_D A [(h0, .inr (7, [.ref q_1, .ref q_4, .null, .null, .null, .null, .null, .int 0])), (q_1, .inr (4, [.ref (u_3 0), .int 0, .int (-1), .int 0, .ref (u_3 2), .int 0, .int 0, .int 0, .int 0, .int 0, .int 0])), ((u_3 0), .inr (5, [.ref (u_3 1), .int 1, .int 0, .int 100, .int 7, .int 14, .int 3, .int 1, .int 8])), ((u_3 1), .inl (cI, 8, .inl cyc0)), ((u_3 2), .inl (cB, 300, .inl (fun _ => 0))), (q_4, .inr (5, [.ref u_6, .int 1, .int 0, .int 100, .int 7, .int 14, .int 3, .int 1, .int 8])), (u_6, .inl (cI, 8, .inl cyc0))] := hD
  refine lv_aload_n hx hb dX7_init_26 rfl (lv_at hl 0 rfl) ?_
  refine va_new (ci := 3) (fs := [.null, .null, .int 0, .int 0]) (C := RX3) (T := TX3) (N := 4) hx hb hts w_18 tyX3 tyX3_ok hown w_19 w_20 w_21 hK hP hD hS hA rfl (nwX3) (Nat.le_of_ble_eq_true rfl) (Nat.le_of_ble_eq_true rfl) dX7_init_27 (fun q_7 H hP hD hS => ?_)
  have hP : va_P D vwCl [(h0, .inr (7, [.ref q_1, .ref q_4, .null, .null, .null, .null, .null, .int 0])), (q_1, .inr (4, [.ref (u_3 0), .int 0, .int (-1), .int 0, .ref (u_3 2), .int 0, .int 0, .int 0, .int 0, .int 0, .int 0])), ((u_3 0), .inr (5, [.ref (u_3 1), .int 1, .int 0, .int 100, .int 7, .int 14, .int 3, .int 1, .int 8])), ((u_3 1), .inl (cI, 8, .inl cyc0)), ((u_3 2), .inl (cB, 300, .inl (fun _ => 0))), (q_4, .inr (5, [.ref u_6, .int 1, .int 0, .int 100, .int 7, .int 14, .int 3, .int 1, .int 8])), (u_6, .inl (cI, 8, .inl cyc0)), (q_7, .inr (3, [.null, .null, .int 0, .int 0]))] H := hP
  have hD : va_D A [(h0, .inr (7, [.ref q_1, .ref q_4, .null, .null, .null, .null, .null, .int 0])), (q_1, .inr (4, [.ref (u_3 0), .int 0, .int (-1), .int 0, .ref (u_3 2), .int 0, .int 0, .int 0, .int 0, .int 0, .int 0])), ((u_3 0), .inr (5, [.ref (u_3 1), .int 1, .int 0, .int 100, .int 7, .int 14, .int 3, .int 1, .int 8])), ((u_3 1), .inl (cI, 8, .inl cyc0)), ((u_3 2), .inl (cB, 300, .inl (fun _ => 0))), (q_4, .inr (5, [.ref u_6, .int 1, .int 0, .int 100, .int 7, .int 14, .int 3, .int 1, .int 8])), (u_6, .inl (cI, 8, .inl cyc0)), (q_7, .inr (3, [.null, .null, .int 0, .int 0]))] := hD
  refine W.widen (k := 7) (n := 349) (Nat.le_refl _) (Nat.le_refl _) ?_
  refine lv_dup hx hb dX7_init_30 rfl ?_
  refine cl_v (wc := [(q_7, .inr (3, [.null, .null, .int 0, .int 0]))]) (wr := [(h0, .inr (7, [.ref q_1, .ref q_4, .null, .null, .null, .null, .null, .int 0])), (q_1, .inr (4, [.ref (u_3 0), .int 0, .int (-1), .int 0, .ref (u_3 2), .int 0, .int 0, .int 0, .int 0, .int 0, .int 0])), ((u_3 0), .inr (5, [.ref (u_3 1), .int 1, .int 0, .int 100, .int 7, .int 14, .int 3, .int 1, .int 8])), ((u_3 1), .inl (cI, 8, .inl cyc0)), ((u_3 2), .inl (cB, 300, .inl (fun _ => 0))), (q_4, .inr (5, [.ref u_6, .int 1, .int 0, .int 100, .int 7, .int 14, .int 3, .int 1, .int 8])), (u_6, .inl (cI, 8, .inl cyc0))]) (va_runIN (As := []) (rest := [.ref q_7, .ref h0]) ⟨hx, hb, hml, hown, hts⟩ (k_X3_init l D cB cI cJ cZ H.size q_7) ⟨va_cnB 0 hts gX7_init_X3_init_n25 rfl rfl rfl hNw.2.1 w_21 (by decide +kernel) ⟨Nat.le_of_ble_eq_true rfl, Nat.le_of_ble_eq_true rfl⟩, rfl, w_22⟩ (pre_I (hP.sub (ws' := [(q_7, .inr (3, [.null, .null, .int 0, .int 0]))]) [7] rfl) hK (hD.sub (ws' := [(q_7, .inr (3, [.null, .null, .int 0, .int 0]))]) [7] (by decide) rfl) rfl) rfl rfl hl.1 rfl (lv_room (Nat.le_of_ble_eq_true rfl)) dX7_init_31 ⟨Nat.le_of_ble_eq_true rfl, Nat.le_of_ble_eq_true rfl⟩) hP hD hS hA [7] [0, 1, 2, 3, 4, 5, 6] rfl rfl (by decide) (by decide) 9 365 rfl rfl (fun u_9 H locs hw_u_9 hP hD hS => ?_)
  have hP : va_P D vwCl [(h0, .inr (7, [.ref q_1, .ref q_4, .null, .null, .null, .null, .null, .int 0])), (q_1, .inr (4, [.ref (u_3 0), .int 0, .int (-1), .int 0, .ref (u_3 2), .int 0, .int 0, .int 0, .int 0, .int 0, .int 0])), ((u_3 0), .inr (5, [.ref (u_3 1), .int 1, .int 0, .int 100, .int 7, .int 14, .int 3, .int 1, .int 8])), ((u_3 1), .inl (cI, 8, .inl cyc0)), ((u_3 2), .inl (cB, 300, .inl (fun _ => 0))), (q_4, .inr (5, [.ref u_6, .int 1, .int 0, .int 100, .int 7, .int 14, .int 3, .int 1, .int 8])), (u_6, .inl (cI, 8, .inl cyc0)), (q_7, .inr (3, [.ref (u_9 0), .ref (u_9 1), .int 0, .int 0])), ((u_9 0), .inl (cI, 8, .inl (fun _ => 0))), ((u_9 1), .inl (cI, 8, .inl (fun _ => 0)))] H := hP
  have hD : va_D A [(h0, .inr (7, [.ref q_1, .ref q_4, .null, .null, .null, .null, .null, .int 0])), (q_1, .inr (4, [.ref (u_3 0), .int 0, .int (-1), .int 0, .ref (u_3 2), .int 0, .int 0, .int 0, .int 0, .int 0, .int 0])), ((u_3 0), .inr (5, [.ref (u_3 1), .int 1, .int 0, .int 100, .int 7, .int 14, .int 3, .int 1, .int 8])), ((u_3 1), .inl (cI, 8, .inl cyc0)), ((u_3 2), .inl (cB, 300, .inl (fun _ => 0))), (q_4, .inr (5, [.ref u_6, .int 1, .int 0, .int 100, .int 7, .int 14, .int 3, .int 1, .int 8])), (u_6, .inl (cI, 8, .inl cyc0)), (q_7, .inr (3, [.ref (u_9 0), .ref (u_9 1), .int 0, .int 0])), ((u_9 0), .inl (cI, 8, .inl (fun _ => 0))), ((u_9 1), .inl (cI, 8, .inl (fun _ => 0)))] := hD
  refine va_putF (D := D) (ci := 7) (v := .ref q_7) (ty := .object "BlueCoats$Givers") (C := RX7) (T := TX7) (N := 8) hx hb hts w_9 tyX7 tyX7_ok nmX7 hown hK hP hD hS 0 rfl rfl 2 (by decide) w_23 (fun _ h9 => h9) rfl hin rfl (by decide +kernel) rfl rfl (Nat.le_of_ble_eq_true rfl) dX7_init_34 (fun H locs hP hD hS => ?_)
  have hP : va_P D vwCl [(h0, .inr (7, [.ref q_1, .ref q_4, .ref q_7, .null, .null, .null, .null, .int 0])), (q_1, .inr (4, [.ref (u_3 0), .int 0, .int (-1), .int 0, .ref (u_3 2), .int 0, .int 0, .int 0, .int 0, .int 0, .int 0])), ((u_3 0), .inr (5, [.ref (u_3 1), .int 1, .int 0, .int 100, .int 7, .int 14, .int 3, .int 1, .int 8])), ((u_3 1), .inl (cI, 8, .inl cyc0)), ((u_3 2), .inl (cB, 300, .inl (fun _ => 0))), (q_4, .inr (5, [.ref u_6, .int 1, .int 0, .int 100, .int 7, .int 14, .int 3, .int 1, .int 8])), (u_6, .inl (cI, 8, .inl cyc0)), (q_7, .inr (3, [.ref (u_9 0), .ref (u_9 1), .int 0, .int 0])), ((u_9 0), .inl (cI, 8, .inl (fun _ => 0))), ((u_9 1), .inl (cI, 8, .inl (fun _ => 0)))] H := hP
  have hD : va_D A [(h0, .inr (7, [.ref q_1, .ref q_4, .ref q_7, .null, .null, .null, .null, .int 0])), (q_1, .inr (4, [.ref (u_3 0), .int 0, .int (-1), .int 0, .ref (u_3 2), .int 0, .int 0, .int 0, .int 0, .int 0, .int 0])), ((u_3 0), .inr (5, [.ref (u_3 1), .int 1, .int 0, .int 100, .int 7, .int 14, .int 3, .int 1, .int 8])), ((u_3 1), .inl (cI, 8, .inl cyc0)), ((u_3 2), .inl (cB, 300, .inl (fun _ => 0))), (q_4, .inr (5, [.ref u_6, .int 1, .int 0, .int 100, .int 7, .int 14, .int 3, .int 1, .int 8])), (u_6, .inl (cI, 8, .inl cyc0)), (q_7, .inr (3, [.ref (u_9 0), .ref (u_9 1), .int 0, .int 0])), ((u_9 0), .inl (cI, 8, .inl (fun _ => 0))), ((u_9 1), .inl (cI, 8, .inl (fun _ => 0)))] := hD
  refine lv_aload_n hx hb dX7_init_37 rfl (lv_at hl 0 rfl) ?_
  refine va_new (ci := 1) (fs := [.null, .null, .null, .null, .null, .null, .int 0]) (C := RX1) (T := TX1) (N := 7) hx hb hts w_24 tyX1 tyX1_ok hown w_25 w_26 w_27 hK hP hD hS hA rfl (nwX1) (Nat.le_of_ble_eq_true rfl) (Nat.le_of_ble_eq_true rfl) dX7_init_38 (fun q_10 H hP hD hS => ?_)
  have hP : va_P D vwCl [(h0, .inr (7, [.ref q_1, .ref q_4, .ref q_7, .null, .null, .null, .null, .int 0])), (q_1, .inr (4, [.ref (u_3 0), .int 0, .int (-1), .int 0, .ref (u_3 2), .int 0, .int 0, .int 0, .int 0, .int 0, .int 0])), ((u_3 0), .inr (5, [.ref (u_3 1), .int 1, .int 0, .int 100, .int 7, .int 14, .int 3, .int 1, .int 8])), ((u_3 1), .inl (cI, 8, .inl cyc0)), ((u_3 2), .inl (cB, 300, .inl (fun _ => 0))), (q_4, .inr (5, [.ref u_6, .int 1, .int 0, .int 100, .int 7, .int 14, .int 3, .int 1, .int 8])), (u_6, .inl (cI, 8, .inl cyc0)), (q_7, .inr (3, [.ref (u_9 0), .ref (u_9 1), .int 0, .int 0])), ((u_9 0), .inl (cI, 8, .inl (fun _ => 0))), ((u_9 1), .inl (cI, 8, .inl (fun _ => 0))), (q_10, .inr (1, [.null, .null, .null, .null, .null, .null, .int 0]))] H := hP
  have hD : va_D A [(h0, .inr (7, [.ref q_1, .ref q_4, .ref q_7, .null, .null, .null, .null, .int 0])), (q_1, .inr (4, [.ref (u_3 0), .int 0, .int (-1), .int 0, .ref (u_3 2), .int 0, .int 0, .int 0, .int 0, .int 0, .int 0])), ((u_3 0), .inr (5, [.ref (u_3 1), .int 1, .int 0, .int 100, .int 7, .int 14, .int 3, .int 1, .int 8])), ((u_3 1), .inl (cI, 8, .inl cyc0)), ((u_3 2), .inl (cB, 300, .inl (fun _ => 0))), (q_4, .inr (5, [.ref u_6, .int 1, .int 0, .int 100, .int 7, .int 14, .int 3, .int 1, .int 8])), (u_6, .inl (cI, 8, .inl cyc0)), (q_7, .inr (3, [.ref (u_9 0), .ref (u_9 1), .int 0, .int 0])), ((u_9 0), .inl (cI, 8, .inl (fun _ => 0))), ((u_9 1), .inl (cI, 8, .inl (fun _ => 0))), (q_10, .inr (1, [.null, .null, .null, .null, .null, .null, .int 0]))] := hD
  refine W.widen (k := 10) (n := 372) (Nat.le_refl _) (Nat.le_refl _) ?_
  refine lv_dup hx hb dX7_init_41 rfl ?_
  refine cl_v (wc := [(q_10, .inr (1, [.null, .null, .null, .null, .null, .null, .int 0]))]) (wr := [(h0, .inr (7, [.ref q_1, .ref q_4, .ref q_7, .null, .null, .null, .null, .int 0])), (q_1, .inr (4, [.ref (u_3 0), .int 0, .int (-1), .int 0, .ref (u_3 2), .int 0, .int 0, .int 0, .int 0, .int 0, .int 0])), ((u_3 0), .inr (5, [.ref (u_3 1), .int 1, .int 0, .int 100, .int 7, .int 14, .int 3, .int 1, .int 8])), ((u_3 1), .inl (cI, 8, .inl cyc0)), ((u_3 2), .inl (cB, 300, .inl (fun _ => 0))), (q_4, .inr (5, [.ref u_6, .int 1, .int 0, .int 100, .int 7, .int 14, .int 3, .int 1, .int 8])), (u_6, .inl (cI, 8, .inl cyc0)), (q_7, .inr (3, [.ref (u_9 0), .ref (u_9 1), .int 0, .int 0])), ((u_9 0), .inl (cI, 8, .inl (fun _ => 0))), ((u_9 1), .inl (cI, 8, .inl (fun _ => 0)))]) (va_runIN (As := []) (rest := [.ref q_10, .ref h0]) ⟨hx, hb, hml, hown, hts⟩ (k_X1_init l D cB cI cJ cZ H.size q_10) ⟨va_cnB 0 hts gX7_init_X1_init_n32 rfl rfl rfl hNw.2.2.1 w_27 (by decide +kernel) ⟨Nat.le_of_ble_eq_true rfl, Nat.le_of_ble_eq_true rfl⟩, rfl, w_28⟩ (pre_I (hP.sub (ws' := [(q_10, .inr (1, [.null, .null, .null, .null, .null, .null, .int 0]))]) [10] rfl) hK (hD.sub (ws' := [(q_10, .inr (1, [.null, .null, .null, .null, .null, .null, .int 0]))]) [10] (by decide) rfl) rfl) rfl rfl hl.1 rfl (lv_room (Nat.le_of_ble_eq_true rfl)) dX7_init_42 ⟨Nat.le_of_ble_eq_true rfl, Nat.le_of_ble_eq_true rfl⟩) hP hD hS hA [10] [0, 1, 2, 3, 4, 5, 6, 7, 8, 9] rfl rfl (by decide) (by decide) 16 468 rfl rfl (fun u_12 H locs hw_u_12 hP hD hS => ?_)
  have hP : va_P D vwCl [(h0, .inr (7, [.ref q_1, .ref q_4, .ref q_7, .null, .null, .null, .null, .int 0])), (q_1, .inr (4, [.ref (u_3 0), .int 0, .int (-1), .int 0, .ref (u_3 2), .int 0, .int 0, .int 0, .int 0, .int 0, .int 0])), ((u_3 0), .inr (5, [.ref (u_3 1), .int 1, .int 0, .int 100, .int 7, .int 14, .int 3, .int 1, .int 8])), ((u_3 1), .inl (cI, 8, .inl cyc0)), ((u_3 2), .inl (cB, 300, .inl (fun _ => 0))), (q_4, .inr (5, [.ref u_6, .int 1, .int 0, .int 100, .int 7, .int 14, .int 3, .int 1, .int 8])), (u_6, .inl (cI, 8, .inl cyc0)), (q_7, .inr (3, [.ref (u_9 0), .ref (u_9 1), .int 0, .int 0])), ((u_9 0), .inl (cI, 8, .inl (fun _ => 0))), ((u_9 1), .inl (cI, 8, .inl (fun _ => 0))), (q_10, .inr (1, [.ref (u_12 0), .ref (u_12 1), .ref (u_12 2), .ref (u_12 3), .ref (u_12 4), .ref (u_12 5), .int 0])), ((u_12 0), .inl (cI, 16, .inl (fun _ => 0))), ((u_12 1), .inl (cI, 16, .inl (fun _ => 0))), ((u_12 2), .inl (cI, 16, .inl (fun _ => 0))), ((u_12 3), .inl (cI, 16, .inl (fun _ => 0))), ((u_12 4), .inl (cI, 16, .inl (fun _ => 0))), ((u_12 5), .inl (cI, 16, .inl (fun _ => 0)))] H := hP
  have hD : va_D A [(h0, .inr (7, [.ref q_1, .ref q_4, .ref q_7, .null, .null, .null, .null, .int 0])), (q_1, .inr (4, [.ref (u_3 0), .int 0, .int (-1), .int 0, .ref (u_3 2), .int 0, .int 0, .int 0, .int 0, .int 0, .int 0])), ((u_3 0), .inr (5, [.ref (u_3 1), .int 1, .int 0, .int 100, .int 7, .int 14, .int 3, .int 1, .int 8])), ((u_3 1), .inl (cI, 8, .inl cyc0)), ((u_3 2), .inl (cB, 300, .inl (fun _ => 0))), (q_4, .inr (5, [.ref u_6, .int 1, .int 0, .int 100, .int 7, .int 14, .int 3, .int 1, .int 8])), (u_6, .inl (cI, 8, .inl cyc0)), (q_7, .inr (3, [.ref (u_9 0), .ref (u_9 1), .int 0, .int 0])), ((u_9 0), .inl (cI, 8, .inl (fun _ => 0))), ((u_9 1), .inl (cI, 8, .inl (fun _ => 0))), (q_10, .inr (1, [.ref (u_12 0), .ref (u_12 1), .ref (u_12 2), .ref (u_12 3), .ref (u_12 4), .ref (u_12 5), .int 0])), ((u_12 0), .inl (cI, 16, .inl (fun _ => 0))), ((u_12 1), .inl (cI, 16, .inl (fun _ => 0))), ((u_12 2), .inl (cI, 16, .inl (fun _ => 0))), ((u_12 3), .inl (cI, 16, .inl (fun _ => 0))), ((u_12 4), .inl (cI, 16, .inl (fun _ => 0))), ((u_12 5), .inl (cI, 16, .inl (fun _ => 0)))] := hD
  refine va_putF (D := D) (ci := 7) (v := .ref q_10) (ty := .object "BlueCoats$Children") (C := RX7) (T := TX7) (N := 8) hx hb hts w_9 tyX7 tyX7_ok nmX7 hown hK hP hD hS 0 rfl rfl 3 (by decide) w_29 (fun _ h9 => h9) rfl hin rfl (by decide +kernel) rfl rfl (Nat.le_of_ble_eq_true rfl) dX7_init_45 (fun H locs hP hD hS => ?_)
  have hP : va_P D vwCl [(h0, .inr (7, [.ref q_1, .ref q_4, .ref q_7, .ref q_10, .null, .null, .null, .int 0])), (q_1, .inr (4, [.ref (u_3 0), .int 0, .int (-1), .int 0, .ref (u_3 2), .int 0, .int 0, .int 0, .int 0, .int 0, .int 0])), ((u_3 0), .inr (5, [.ref (u_3 1), .int 1, .int 0, .int 100, .int 7, .int 14, .int 3, .int 1, .int 8])), ((u_3 1), .inl (cI, 8, .inl cyc0)), ((u_3 2), .inl (cB, 300, .inl (fun _ => 0))), (q_4, .inr (5, [.ref u_6, .int 1, .int 0, .int 100, .int 7, .int 14, .int 3, .int 1, .int 8])), (u_6, .inl (cI, 8, .inl cyc0)), (q_7, .inr (3, [.ref (u_9 0), .ref (u_9 1), .int 0, .int 0])), ((u_9 0), .inl (cI, 8, .inl (fun _ => 0))), ((u_9 1), .inl (cI, 8, .inl (fun _ => 0))), (q_10, .inr (1, [.ref (u_12 0), .ref (u_12 1), .ref (u_12 2), .ref (u_12 3), .ref (u_12 4), .ref (u_12 5), .int 0])), ((u_12 0), .inl (cI, 16, .inl (fun _ => 0))), ((u_12 1), .inl (cI, 16, .inl (fun _ => 0))), ((u_12 2), .inl (cI, 16, .inl (fun _ => 0))), ((u_12 3), .inl (cI, 16, .inl (fun _ => 0))), ((u_12 4), .inl (cI, 16, .inl (fun _ => 0))), ((u_12 5), .inl (cI, 16, .inl (fun _ => 0)))] H := hP
  have hD : va_D A [(h0, .inr (7, [.ref q_1, .ref q_4, .ref q_7, .ref q_10, .null, .null, .null, .int 0])), (q_1, .inr (4, [.ref (u_3 0), .int 0, .int (-1), .int 0, .ref (u_3 2), .int 0, .int 0, .int 0, .int 0, .int 0, .int 0])), ((u_3 0), .inr (5, [.ref (u_3 1), .int 1, .int 0, .int 100, .int 7, .int 14, .int 3, .int 1, .int 8])), ((u_3 1), .inl (cI, 8, .inl cyc0)), ((u_3 2), .inl (cB, 300, .inl (fun _ => 0))), (q_4, .inr (5, [.ref u_6, .int 1, .int 0, .int 100, .int 7, .int 14, .int 3, .int 1, .int 8])), (u_6, .inl (cI, 8, .inl cyc0)), (q_7, .inr (3, [.ref (u_9 0), .ref (u_9 1), .int 0, .int 0])), ((u_9 0), .inl (cI, 8, .inl (fun _ => 0))), ((u_9 1), .inl (cI, 8, .inl (fun _ => 0))), (q_10, .inr (1, [.ref (u_12 0), .ref (u_12 1), .ref (u_12 2), .ref (u_12 3), .ref (u_12 4), .ref (u_12 5), .int 0])), ((u_12 0), .inl (cI, 16, .inl (fun _ => 0))), ((u_12 1), .inl (cI, 16, .inl (fun _ => 0))), ((u_12 2), .inl (cI, 16, .inl (fun _ => 0))), ((u_12 3), .inl (cI, 16, .inl (fun _ => 0))), ((u_12 4), .inl (cI, 16, .inl (fun _ => 0))), ((u_12 5), .inl (cI, 16, .inl (fun _ => 0)))] := hD
  refine lv_aload_n hx hb dX7_init_48 rfl (lv_at hl 0 rfl) ?_
  refine va_new (ci := 6) (fs := [.null, .null, .null, .null, .int 0]) (C := RX6) (T := TX6) (N := 5) hx hb hts w_30 tyX6 tyX6_ok hown w_31 w_32 w_33 hK hP hD hS hA rfl (nwX6) (Nat.le_of_ble_eq_true rfl) (Nat.le_of_ble_eq_true rfl) dX7_init_49 (fun q_13 H hP hD hS => ?_)
  have hP : va_P D vwCl [(h0, .inr (7, [.ref q_1, .ref q_4, .ref q_7, .ref q_10, .null, .null, .null, .int 0])), (q_1, .inr (4, [.ref (u_3 0), .int 0, .int (-1), .int 0, .ref (u_3 2), .int 0, .int 0, .int 0, .int 0, .int 0, .int 0])), ((u_3 0), .inr (5, [.ref (u_3 1), .int 1, .int 0, .int 100, .int 7, .int 14, .int 3, .int 1, .int 8])), ((u_3 1), .inl (cI, 8, .inl cyc0)), ((u_3 2), .inl (cB, 300, .inl (fun _ => 0))), (q_4, .inr (5, [.ref u_6, .int 1, .int 0, .int 100, .int 7, .int 14, .int 3, .int 1, .int 8])), (u_6, .inl (cI, 8, .inl cyc0)), (q_7, .inr (3, [.ref (u_9 0), .ref (u_9 1), .int 0, .int 0])), ((u_9 0), .inl (cI, 8, .inl (fun _ => 0))), ((u_9 1), .inl (cI, 8, .inl (fun _ => 0))), (q_10, .inr (1, [.ref (u_12 0), .ref (u_12 1), .ref (u_12 2), .ref (u_12 3), .ref (u_12 4), .ref (u_12 5), .int 0])), ((u_12 0), .inl (cI, 16, .inl (fun _ => 0))), ((u_12 1), .inl (cI, 16, .inl (fun _ => 0))), ((u_12 2), .inl (cI, 16, .inl (fun _ => 0))), ((u_12 3), .inl (cI, 16, .inl (fun _ => 0))), ((u_12 4), .inl (cI, 16, .inl (fun _ => 0))), ((u_12 5), .inl (cI, 16, .inl (fun _ => 0))), (q_13, .inr (6, [.null, .null, .null, .null, .int 0]))] H := hP
  have hD : va_D A [(h0, .inr (7, [.ref q_1, .ref q_4, .ref q_7, .ref q_10, .null, .null, .null, .int 0])), (q_1, .inr (4, [.ref (u_3 0), .int 0, .int (-1), .int 0, .ref (u_3 2), .int 0, .int 0, .int 0, .int 0, .int 0, .int 0])), ((u_3 0), .inr (5, [.ref (u_3 1), .int 1, .int 0, .int 100, .int 7, .int 14, .int 3, .int 1, .int 8])), ((u_3 1), .inl (cI, 8, .inl cyc0)), ((u_3 2), .inl (cB, 300, .inl (fun _ => 0))), (q_4, .inr (5, [.ref u_6, .int 1, .int 0, .int 100, .int 7, .int 14, .int 3, .int 1, .int 8])), (u_6, .inl (cI, 8, .inl cyc0)), (q_7, .inr (3, [.ref (u_9 0), .ref (u_9 1), .int 0, .int 0])), ((u_9 0), .inl (cI, 8, .inl (fun _ => 0))), ((u_9 1), .inl (cI, 8, .inl (fun _ => 0))), (q_10, .inr (1, [.ref (u_12 0), .ref (u_12 1), .ref (u_12 2), .ref (u_12 3), .ref (u_12 4), .ref (u_12 5), .int 0])), ((u_12 0), .inl (cI, 16, .inl (fun _ => 0))), ((u_12 1), .inl (cI, 16, .inl (fun _ => 0))), ((u_12 2), .inl (cI, 16, .inl (fun _ => 0))), ((u_12 3), .inl (cI, 16, .inl (fun _ => 0))), ((u_12 4), .inl (cI, 16, .inl (fun _ => 0))), ((u_12 5), .inl (cI, 16, .inl (fun _ => 0))), (q_13, .inr (6, [.null, .null, .null, .null, .int 0]))] := hD
  refine W.widen (k := 17) (n := 473) (Nat.le_refl _) (Nat.le_refl _) ?_
  refine lv_dup hx hb dX7_init_52 rfl ?_
  refine cl_v (wc := [(q_13, .inr (6, [.null, .null, .null, .null, .int 0]))]) (wr := [(h0, .inr (7, [.ref q_1, .ref q_4, .ref q_7, .ref q_10, .null, .null, .null, .int 0])), (q_1, .inr (4, [.ref (u_3 0), .int 0, .int (-1), .int 0, .ref (u_3 2), .int 0, .int 0, .int 0, .int 0, .int 0, .int 0])), ((u_3 0), .inr (5, [.ref (u_3 1), .int 1, .int 0, .int 100, .int 7, .int 14, .int 3, .int 1, .int 8])), ((u_3 1), .inl (cI, 8, .inl cyc0)), ((u_3 2), .inl (cB, 300, .inl (fun _ => 0))), (q_4, .inr (5, [.ref u_6, .int 1, .int 0, .int 100, .int 7, .int 14, .int 3, .int 1, .int 8])), (u_6, .inl (cI, 8, .inl cyc0)), (q_7, .inr (3, [.ref (u_9 0), .ref (u_9 1), .int 0, .int 0])), ((u_9 0), .inl (cI, 8, .inl (fun _ => 0))), ((u_9 1), .inl (cI, 8, .inl (fun _ => 0))), (q_10, .inr (1, [.ref (u_12 0), .ref (u_12 1), .ref (u_12 2), .ref (u_12 3), .ref (u_12 4), .ref (u_12 5), .int 0])), ((u_12 0), .inl (cI, 16, .inl (fun _ => 0))), ((u_12 1), .inl (cI, 16, .inl (fun _ => 0))), ((u_12 2), .inl (cI, 16, .inl (fun _ => 0))), ((u_12 3), .inl (cI, 16, .inl (fun _ => 0))), ((u_12 4), .inl (cI, 16, .inl (fun _ => 0))), ((u_12 5), .inl (cI, 16, .inl (fun _ => 0)))]) (va_runIN (As := []) (rest := [.ref q_13, .ref h0]) ⟨hx, hb, hml, hown, hts⟩ (k_X6_init l D cB cI cJ cZ H.size q_13) ⟨va_cnB 0 hts gX7_init_X6_init_n39 rfl rfl rfl hNw.2.2.2.1 w_33 (by decide +kernel) ⟨Nat.le_of_ble_eq_true rfl, Nat.le_of_ble_eq_true rfl⟩, rfl, w_34⟩ (pre_I (hP.sub (ws' := [(q_13, .inr (6, [.null, .null, .null, .null, .int 0]))]) [17] rfl) hK (hD.sub (ws' := [(q_13, .inr (6, [.null, .null, .null, .null, .int 0]))]) [17] (by decide) rfl) rfl) rfl rfl hl.1 rfl (lv_room (Nat.le_of_ble_eq_true rfl)) dX7_init_53 ⟨Nat.le_of_ble_eq_true rfl, Nat.le_of_ble_eq_true rfl⟩) hP hD hS hA [17] [0, 1, 2, 3, 4, 5, 6, 7, 8, 9, 10, 11, 12, 13, 14, 15, 16] rfl rfl (by decide) (by decide) 21 633 rfl rfl (fun u_15 H locs hw_u_15 hP hD hS => ?_)
  have hP : va_P D vwCl [(h0, .inr (7, [.ref q_1, .ref q_4, .ref q_7, .ref q_10, .null, .null, .null, .int 0])), (q_1, .inr (4, [.ref (u_3 0), .int 0, .int (-1), .int 0, .ref (u_3 2), .int 0, .int 0, .int 0, .int 0, .int 0, .int 0])), ((u_3 0), .inr (5, [.ref (u_3 1), .int 1, .int 0, .int 100, .int 7, .int 14, .int 3, .int 1, .int 8])), ((u_3 1), .inl (cI, 8, .inl cyc0)), ((u_3 2), .inl (cB, 300, .inl (fun _ => 0))), (q_4, .inr (5, [.ref u_6, .int 1, .int 0, .int 100, .int 7, .int 14, .int 3, .int 1, .int 8])), (u_6, .inl (cI, 8, .inl cyc0)), (q_7, .inr (3, [.ref (u_9 0), .ref (u_9 1), .int 0, .int 0])), ((u_9 0), .inl (cI, 8, .inl (fun _ => 0))), ((u_9 1), .inl (cI, 8, .inl (fun _ => 0))), (q_10, .inr (1, [.ref (u_12 0), .ref (u_12 1), .ref (u_12 2), .ref (u_12 3), .ref (u_12 4), .ref (u_12 5), .int 0])), ((u_12 0), .inl (cI, 16, .inl (fun _ => 0))), ((u_12 1), .inl (cI, 16, .inl (fun _ => 0))), ((u_12 2), .inl (cI, 16, .inl (fun _ => 0))), ((u_12 3), .inl (cI, 16, .inl (fun _ => 0))), ((u_12 4), .inl (cI, 16, .inl (fun _ => 0))), ((u_12 5), .inl (cI, 16, .inl (fun _ => 0))), (q_13, .inr (6, [.ref (u_15 0), .ref (u_15 1), .ref (u_15 2), .ref (u_15 3), .int 0])), ((u_15 0), .inl (cI, 40, .inl (fun _ => 0))), ((u_15 1), .inl (cI, 40, .inl (fun _ => 0))), ((u_15 2), .inl (cZ, 40, .inl (fun _ => 0))), ((u_15 3), .inl (cI, 40, .inl (fun _ => 0)))] H := hP
  have hD : va_D A [(h0, .inr (7, [.ref q_1, .ref q_4, .ref q_7, .ref q_10, .null, .null, .null, .int 0])), (q_1, .inr (4, [.ref (u_3 0), .int 0, .int (-1), .int 0, .ref (u_3 2), .int 0, .int 0, .int 0, .int 0, .int 0, .int 0])), ((u_3 0), .inr (5, [.ref (u_3 1), .int 1, .int 0, .int 100, .int 7, .int 14, .int 3, .int 1, .int 8])), ((u_3 1), .inl (cI, 8, .inl cyc0)), ((u_3 2), .inl (cB, 300, .inl (fun _ => 0))), (q_4, .inr (5, [.ref u_6, .int 1, .int 0, .int 100, .int 7, .int 14, .int 3, .int 1, .int 8])), (u_6, .inl (cI, 8, .inl cyc0)), (q_7, .inr (3, [.ref (u_9 0), .ref (u_9 1), .int 0, .int 0])), ((u_9 0), .inl (cI, 8, .inl (fun _ => 0))), ((u_9 1), .inl (cI, 8, .inl (fun _ => 0))), (q_10, .inr (1, [.ref (u_12 0), .ref (u_12 1), .ref (u_12 2), .ref (u_12 3), .ref (u_12 4), .ref (u_12 5), .int 0])), ((u_12 0), .inl (cI, 16, .inl (fun _ => 0))), ((u_12 1), .inl (cI, 16, .inl (fun _ => 0))), ((u_12 2), .inl (cI, 16, .inl (fun _ => 0))), ((u_12 3), .inl (cI, 16, .inl (fun _ => 0))), ((u_12 4), .inl (cI, 16, .inl (fun _ => 0))), ((u_12 5), .inl (cI, 16, .inl (fun _ => 0))), (q_13, .inr (6, [.ref (u_15 0), .ref (u_15 1), .ref (u_15 2), .ref (u_15 3), .int 0])), ((u_15 0), .inl (cI, 40, .inl (fun _ => 0))), ((u_15 1), .inl (cI, 40, .inl (fun _ => 0))), ((u_15 2), .inl (cZ, 40, .inl (fun _ => 0))), ((u_15 3), .inl (cI, 40, .inl (fun _ => 0)))] := hD
  refine va_putF (D := D) (ci := 7) (v := .ref q_13) (ty := .object "BlueCoats$Wardrobe") (C := RX7) (T := TX7) (N := 8) hx hb hts w_9 tyX7 tyX7_ok nmX7 hown hK hP hD hS 0 rfl rfl 4 (by decide) w_35 (fun _ h9 => h9) rfl hin rfl (by decide +kernel) rfl rfl (Nat.le_of_ble_eq_true rfl) dX7_init_56 (fun H locs hP hD hS => ?_)
  have hP : va_P D vwCl [(h0, .inr (7, [.ref q_1, .ref q_4, .ref q_7, .ref q_10, .ref q_13, .null, .null, .int 0])), (q_1, .inr (4, [.ref (u_3 0), .int 0, .int (-1), .int 0, .ref (u_3 2), .int 0, .int 0, .int 0, .int 0, .int 0, .int 0])), ((u_3 0), .inr (5, [.ref (u_3 1), .int 1, .int 0, .int 100, .int 7, .int 14, .int 3, .int 1, .int 8])), ((u_3 1), .inl (cI, 8, .inl cyc0)), ((u_3 2), .inl (cB, 300, .inl (fun _ => 0))), (q_4, .inr (5, [.ref u_6, .int 1, .int 0, .int 100, .int 7, .int 14, .int 3, .int 1, .int 8])), (u_6, .inl (cI, 8, .inl cyc0)), (q_7, .inr (3, [.ref (u_9 0), .ref (u_9 1), .int 0, .int 0])), ((u_9 0), .inl (cI, 8, .inl (fun _ => 0))), ((u_9 1), .inl (cI, 8, .inl (fun _ => 0))), (q_10, .inr (1, [.ref (u_12 0), .ref (u_12 1), .ref (u_12 2), .ref (u_12 3), .ref (u_12 4), .ref (u_12 5), .int 0])), ((u_12 0), .inl (cI, 16, .inl (fun _ => 0))), ((u_12 1), .inl (cI, 16, .inl (fun _ => 0))), ((u_12 2), .inl (cI, 16, .inl (fun _ => 0))), ((u_12 3), .inl (cI, 16, .inl (fun _ => 0))), ((u_12 4), .inl (cI, 16, .inl (fun _ => 0))), ((u_12 5), .inl (cI, 16, .inl (fun _ => 0))), (q_13, .inr (6, [.ref (u_15 0), .ref (u_15 1), .ref (u_15 2), .ref (u_15 3), .int 0])), ((u_15 0), .inl (cI, 40, .inl (fun _ => 0))), ((u_15 1), .inl (cI, 40, .inl (fun _ => 0))), ((u_15 2), .inl (cZ, 40, .inl (fun _ => 0))), ((u_15 3), .inl (cI, 40, .inl (fun _ => 0)))] H := hP
  have hD : va_D A [(h0, .inr (7, [.ref q_1, .ref q_4, .ref q_7, .ref q_10, .ref q_13, .null, .null, .int 0])), (q_1, .inr (4, [.ref (u_3 0), .int 0, .int (-1), .int 0, .ref (u_3 2), .int 0, .int 0, .int 0, .int 0, .int 0, .int 0])), ((u_3 0), .inr (5, [.ref (u_3 1), .int 1, .int 0, .int 100, .int 7, .int 14, .int 3, .int 1, .int 8])), ((u_3 1), .inl (cI, 8, .inl cyc0)), ((u_3 2), .inl (cB, 300, .inl (fun _ => 0))), (q_4, .inr (5, [.ref u_6, .int 1, .int 0, .int 100, .int 7, .int 14, .int 3, .int 1, .int 8])), (u_6, .inl (cI, 8, .inl cyc0)), (q_7, .inr (3, [.ref (u_9 0), .ref (u_9 1), .int 0, .int 0])), ((u_9 0), .inl (cI, 8, .inl (fun _ => 0))), ((u_9 1), .inl (cI, 8, .inl (fun _ => 0))), (q_10, .inr (1, [.ref (u_12 0), .ref (u_12 1), .ref (u_12 2), .ref (u_12 3), .ref (u_12 4), .ref (u_12 5), .int 0])), ((u_12 0), .inl (cI, 16, .inl (fun _ => 0))), ((u_12 1), .inl (cI, 16, .inl (fun _ => 0))), ((u_12 2), .inl (cI, 16, .inl (fun _ => 0))), ((u_12 3), .inl (cI, 16, .inl (fun _ => 0))), ((u_12 4), .inl (cI, 16, .inl (fun _ => 0))), ((u_12 5), .inl (cI, 16, .inl (fun _ => 0))), (q_13, .inr (6, [.ref (u_15 0), .ref (u_15 1), .ref (u_15 2), .ref (u_15 3), .int 0])), ((u_15 0), .inl (cI, 40, .inl (fun _ => 0))), ((u_15 1), .inl (cI, 40, .inl (fun _ => 0))), ((u_15 2), .inl (cZ, 40, .inl (fun _ => 0))), ((u_15 3), .inl (cI, 40, .inl (fun _ => 0)))] := hD
  refine lv_aload_n hx hb dX7_init_59 rfl (lv_at hl 0 rfl) ?_
  refine va_new (ci := 2) (fs := [.null, .null, .int 0, .null, .null, .int 0]) (C := RX2) (T := TX2) (N := 6) hx hb hts w_36 tyX2 tyX2_ok hown w_37 w_38 w_39 hK hP hD hS hA rfl (nwX2) (Nat.le_of_ble_eq_true rfl) (Nat.le_of_ble_eq_true rfl) dX7_init_60 (fun q_16 H hP hD hS => ?_)
  have hP : va_P D vwCl [(h0, .inr (7, [.ref q_1, .ref q_4, .ref q_7, .ref q_10, .ref q_13, .null, .null, .int 0])), (q_1, .inr (4, [.ref (u_3 0), .int 0, .int (-1), .int 0, .ref (u_3 2), .int 0, .int 0, .int 0, .int 0, .int 0, .int 0])), ((u_3 0), .inr (5, [.ref (u_3 1), .int 1, .int 0, .int 100, .int 7, .int 14, .int 3, .int 1, .int 8])), ((u_3 1), .inl (cI, 8, .inl cyc0)), ((u_3 2), .inl (cB, 300, .inl (fun _ => 0))), (q_4, .inr (5, [.ref u_6, .int 1, .int 0, .int 100, .int 7, .int 14, .int 3, .int 1, .int 8])), (u_6, .inl (cI, 8, .inl cyc0)), (q_7, .inr (3, [.ref (u_9 0), .ref (u_9 1), .int 0, .int 0])), ((u_9 0), .inl (cI, 8, .inl (fun _ => 0))), ((u_9 1), .inl (cI, 8, .inl (fun _ => 0))), (q_10, .inr (1, [.ref (u_12 0), .ref (u_12 1), .ref (u_12 2), .ref (u_12 3), .ref (u_12 4), .ref (u_12 5), .int 0])), ((u_12 0), .inl (cI, 16, .inl (fun _ => 0))), ((u_12 1), .inl (cI, 16, .inl (fun _ => 0))), ((u_12 2), .inl (cI, 16, .inl (fun _ => 0))), ((u_12 3), .inl (cI, 16, .inl (fun _ => 0))), ((u_12 4), .inl (cI, 16, .inl (fun _ => 0))), ((u_12 5), .inl (cI, 16, .inl (fun _ => 0))), (q_13, .inr (6, [.ref (u_15 0), .ref (u_15 1), .ref (u_15 2), .ref (u_15 3), .int 0])), ((u_15 0), .inl (cI, 40, .inl (fun _ => 0))), ((u_15 1), .inl (cI, 40, .inl (fun _ => 0))), ((u_15 2), .inl (cZ, 40, .inl (fun _ => 0))), ((u_15 3), .inl (cI, 40, .inl (fun _ => 0))), (q_16, .inr (2, [.null, .null, .int 0, .null, .null, .int 0]))] H := hP
  have hD : va_D A [(h0, .inr (7, [.ref q_1, .ref q_4, .ref q_7, .ref q_10, .ref q_13, .null, .null, .int 0])), (q_1, .inr (4, [.ref (u_3 0), .int 0, .int (-1), .int 0, .ref (u_3 2), .int 0, .int 0, .int 0, .int 0, .int 0, .int 0])), ((u_3 0), .inr (5, [.ref (u_3 1), .int 1, .int 0, .int 100, .int 7, .int 14, .int 3, .int 1, .int 8])), ((u_3 1), .inl (cI, 8, .inl cyc0)), ((u_3 2), .inl (cB, 300, .inl (fun _ => 0))), (q_4, .inr (5, [.ref u_6, .int 1, .int 0, .int 100, .int 7, .int 14, .int 3, .int 1, .int 8])), (u_6, .inl (cI, 8, .inl cyc0)), (q_7, .inr (3, [.ref (u_9 0), .ref (u_9 1), .int 0, .int 0])), ((u_9 0), .inl (cI, 8, .inl (fun _ => 0))), ((u_9 1), .inl (cI, 8, .inl (fun _ => 0))), (q_10, .inr (1, [.ref (u_12 0), .ref (u_12 1), .ref (u_12 2), .ref (u_12 3), .ref (u_12 4), .ref (u_12 5), .int 0])), ((u_12 0), .inl (cI, 16, .inl (fun _ => 0))), ((u_12 1), .inl (cI, 16, .inl (fun _ => 0))), ((u_12 2), .inl (cI, 16, .inl (fun _ => 0))), ((u_12 3), .inl (cI, 16, .inl (fun _ => 0))), ((u_12 4), .inl (cI, 16, .inl (fun _ => 0))), ((u_12 5), .inl (cI, 16, .inl (fun _ => 0))), (q_13, .inr (6, [.ref (u_15 0), .ref (u_15 1), .ref (u_15 2), .ref (u_15 3), .int 0])), ((u_15 0), .inl (cI, 40, .inl (fun _ => 0))), ((u_15 1), .inl (cI, 40, .inl (fun _ => 0))), ((u_15 2), .inl (cZ, 40, .inl (fun _ => 0))), ((u_15 3), .inl (cI, 40, .inl (fun _ => 0))), (q_16, .inr (2, [.null, .null, .int 0, .null, .null, .int 0]))] := hD
  refine W.widen (k := 22) (n := 639) (Nat.le_refl _) (Nat.le_refl _) ?_
  refine lv_dup hx hb dX7_init_63 rfl ?_
  refine cl_v (wc := [(q_16, .inr (2, [.null, .null, .int 0, .null, .null, .int 0]))]) (wr := [(h0, .inr (7, [.ref q_1, .ref q_4, .ref q_7, .ref q_10, .ref q_13, .null, .null, .int 0])), (q_1, .inr (4, [.ref (u_3 0), .int 0, .int (-1), .int 0, .ref (u_3 2), .int 0, .int 0, .int 0, .int 0, .int 0, .int 0])), ((u_3 0), .inr (5, [.ref (u_3 1), .int 1, .int 0, .int 100, .int 7, .int 14, .int 3, .int 1, .int 8])), ((u_3 1), .inl (cI, 8, .inl cyc0)), ((u_3 2), .inl (cB, 300, .inl (fun _ => 0))), (q_4, .inr (5, [.ref u_6, .int 1, .int 0, .int 100, .int 7, .int 14, .int 3, .int 1, .int 8])), (u_6, .inl (cI, 8, .inl cyc0)), (q_7, .inr (3, [.ref (u_9 0), .ref (u_9 1), .int 0, .int 0])), ((u_9 0), .inl (cI, 8, .inl (fun _ => 0))), ((u_9 1), .inl (cI, 8, .inl (fun _ => 0))), (q_10, .inr (1, [.ref (u_12 0), .ref (u_12 1), .ref (u_12 2), .ref (u_12 3), .ref (u_12 4), .ref (u_12 5), .int 0])), ((u_12 0), .inl (cI, 16, .inl (fun _ => 0))), ((u_12 1), .inl (cI, 16, .inl (fun _ => 0))), ((u_12 2), .inl (cI, 16, .inl (fun _ => 0))), ((u_12 3), .inl (cI, 16, .inl (fun _ => 0))), ((u_12 4), .inl (cI, 16, .inl (fun _ => 0))), ((u_12 5), .inl (cI, 16, .inl (fun _ => 0))), (q_13, .inr (6, [.ref (u_15 0), .ref (u_15 1), .ref (u_15 2), .ref (u_15 3), .int 0])), ((u_15 0), .inl (cI, 40, .inl (fun _ => 0))), ((u_15 1), .inl (cI, 40, .inl (fun _ => 0))), ((u_15 2), .inl (cZ, 40, .inl (fun _ => 0))), ((u_15 3), .inl (cI, 40, .inl (fun _ => 0)))]) (va_runIN (As := []) (rest := [.ref q_16, .ref h0]) ⟨hx, hb, hml, hown, hts⟩ (k_X2_init l D cB cI cJ cZ H.size q_16) ⟨va_cnB 0 hts gX7_init_X2_init_n46 rfl rfl rfl hNw.2.2.2.2.1 w_39 (by decide +kernel) ⟨Nat.le_of_ble_eq_true rfl, Nat.le_of_ble_eq_true rfl⟩, rfl, w_40⟩ (pre_I (hP.sub (ws' := [(q_16, .inr (2, [.null, .null, .int 0, .null, .null, .int 0]))]) [22] rfl) hK (hD.sub (ws' := [(q_16, .inr (2, [.null, .null, .int 0, .null, .null, .int 0]))]) [22] (by decide) rfl) rfl) rfl rfl hl.1 rfl (lv_room (Nat.le_of_ble_eq_true rfl)) dX7_init_64 ⟨Nat.le_of_ble_eq_true rfl, Nat.le_of_ble_eq_true rfl⟩) hP hD hS hA [22] [0, 1, 2, 3, 4, 5, 6, 7, 8, 9, 10, 11, 12, 13, 14, 15, 16, 17, 18, 19, 20, 21] rfl rfl (by decide) (by decide) 26 919 rfl rfl (fun u_18 H locs hw_u_18 hP hD hS => ?_)
  have hP : va_P D vwCl [(h0, .inr (7, [.ref q_1, .ref q_4, .ref q_7, .ref q_10, .ref q_13, .null, .null, .int 0])), (q_1, .inr (4, [.ref (u_3 0), .int 0, .int (-1), .int 0, .ref (u_3 2), .int 0, .int 0, .int 0, .int 0, .int 0, .int 0])), ((u_3 0), .inr (5, [.ref (u_3 1), .int 1, .int 0, .int 100, .int 7, .int 14, .int 3, .int 1, .int 8])), ((u_3 1), .inl (cI, 8, .inl cyc0)), ((u_3 2), .inl (cB, 300, .inl (fun _ => 0))), (q_4, .inr (5, [.ref u_6, .int 1, .int 0, .int 100, .int 7, .int 14, .int 3, .int 1, .int 8])), (u_6, .inl (cI, 8, .inl cyc0)), (q_7, .inr (3, [.ref (u_9 0), .ref (u_9 1), .int 0, .int 0])), ((u_9 0), .inl (cI, 8, .inl (fun _ => 0))), ((u_9 1), .inl (cI, 8, .inl (fun _ => 0))), (q_10, .inr (1, [.ref (u_12 0), .ref (u_12 1), .ref (u_12 2), .ref (u_12 3), .ref (u_12 4), .ref (u_12 5), .int 0])), ((u_12 0), .inl (cI, 16, .inl (fun _ => 0))), ((u_12 1), .inl (cI, 16, .inl (fun _ => 0))), ((u_12 2), .inl (cI, 16, .inl (fun _ => 0))), ((u_12 3), .inl (cI, 16, .inl (fun _ => 0))), ((u_12 4), .inl (cI, 16, .inl (fun _ => 0))), ((u_12 5), .inl (cI, 16, .inl (fun _ => 0))), (q_13, .inr (6, [.ref (u_15 0), .ref (u_15 1), .ref (u_15 2), .ref (u_15 3), .int 0])), ((u_15 0), .inl (cI, 40, .inl (fun _ => 0))), ((u_15 1), .inl (cI, 40, .inl (fun _ => 0))), ((u_15 2), .inl (cZ, 40, .inl (fun _ => 0))), ((u_15 3), .inl (cI, 40, .inl (fun _ => 0))), (q_16, .inr (2, [.ref (u_18 0), .ref (u_18 1), .int 0, .ref (u_18 2), .ref (u_18 3), .int 0])), ((u_18 0), .inl (cI, 8, .inl (fun _ => 0))), ((u_18 1), .inl (cI, 8, .inl (fun _ => 0))), ((u_18 2), .inl (cI, 8, .inl (fun _ => 0))), ((u_18 3), .inl (cJ, 256, .inr (.inl (fun _ => 0))))] H := hP
  have hD : va_D A [(h0, .inr (7, [.ref q_1, .ref q_4, .ref q_7, .ref q_10, .ref q_13, .null, .null, .int 0])), (q_1, .inr (4, [.ref (u_3 0), .int 0, .int (-1), .int 0, .ref (u_3 2), .int 0, .int 0, .int 0, .int 0, .int 0, .int 0])), ((u_3 0), .inr (5, [.ref (u_3 1), .int 1, .int 0, .int 100, .int 7, .int 14, .int 3, .int 1, .int 8])), ((u_3 1), .inl (cI, 8, .inl cyc0)), ((u_3 2), .inl (cB, 300, .inl (fun _ => 0))), (q_4, .inr (5, [.ref u_6, .int 1, .int 0, .int 100, .int 7, .int 14, .int 3, .int 1, .int 8])), (u_6, .inl (cI, 8, .inl cyc0)), (q_7, .inr (3, [.ref (u_9 0), .ref (u_9 1), .int 0, .int 0])), ((u_9 0), .inl (cI, 8, .inl (fun _ => 0))), ((u_9 1), .inl (cI, 8, .inl (fun _ => 0))), (q_10, .inr (1, [.ref (u_12 0), .ref (u_12 1), .ref (u_12 2), .ref (u_12 3), .ref (u_12 4), .ref (u_12 5), .int 0])), ((u_12 0), .inl (cI, 16, .inl (fun _ => 0))), ((u_12 1), .inl (cI, 16, .inl (fun _ => 0))), ((u_12 2), .inl (cI, 16, .inl (fun _ => 0))), ((u_12 3), .inl (cI, 16, .inl (fun _ => 0))), ((u_12 4), .inl (cI, 16, .inl (fun _ => 0))), ((u_12 5), .inl (cI, 16, .inl (fun _ => 0))), (q_13, .inr (6, [.ref (u_15 0), .ref (u_15 1), .ref (u_15 2), .ref (u_15 3), .int 0])), ((u_15 0), .inl (cI, 40, .inl (fun _ => 0))), ((u_15 1), .inl (cI, 40, .inl (fun _ => 0))), ((u_15 2), .inl (cZ, 40, .inl (fun _ => 0))), ((u_15 3), .inl (cI, 40, .inl (fun _ => 0))), (q_16, .inr (2, [.ref (u_18 0), .ref (u_18 1), .int 0, .ref (u_18 2), .ref (u_18 3), .int 0])), ((u_18 0), .inl (cI, 8, .inl (fun _ => 0))), ((u_18 1), .inl (cI, 8, .inl (fun _ => 0))), ((u_18 2), .inl (cI, 8, .inl (fun _ => 0))), ((u_18 3), .inl (cJ, 256, .inr (.inl (fun _ => 0))))] := hD
  refine va_putF (D := D) (ci := 7) (v := .ref q_16) (ty := .object "BlueCoats$Dressing") (C := RX7) (T := TX7) (N := 8) hx hb hts w_9 tyX7 tyX7_ok nmX7 hown hK hP hD hS 0 rfl rfl 5 (by decide) w_41 (fun _ h9 => h9) rfl hin rfl (by decide +kernel) rfl rfl (Nat.le_of_ble_eq_true rfl) dX7_init_67 (fun H locs hP hD hS => ?_)
  have hP : va_P D vwCl [(h0, .inr (7, [.ref q_1, .ref q_4, .ref q_7, .ref q_10, .ref q_13, .ref q_16, .null, .int 0])), (q_1, .inr (4, [.ref (u_3 0), .int 0, .int (-1), .int 0, .ref (u_3 2), .int 0, .int 0, .int 0, .int 0, .int 0, .int 0])), ((u_3 0), .inr (5, [.ref (u_3 1), .int 1, .int 0, .int 100, .int 7, .int 14, .int 3, .int 1, .int 8])), ((u_3 1), .inl (cI, 8, .inl cyc0)), ((u_3 2), .inl (cB, 300, .inl (fun _ => 0))), (q_4, .inr (5, [.ref u_6, .int 1, .int 0, .int 100, .int 7, .int 14, .int 3, .int 1, .int 8])), (u_6, .inl (cI, 8, .inl cyc0)), (q_7, .inr (3, [.ref (u_9 0), .ref (u_9 1), .int 0, .int 0])), ((u_9 0), .inl (cI, 8, .inl (fun _ => 0))), ((u_9 1), .inl (cI, 8, .inl (fun _ => 0))), (q_10, .inr (1, [.ref (u_12 0), .ref (u_12 1), .ref (u_12 2), .ref (u_12 3), .ref (u_12 4), .ref (u_12 5), .int 0])), ((u_12 0), .inl (cI, 16, .inl (fun _ => 0))), ((u_12 1), .inl (cI, 16, .inl (fun _ => 0))), ((u_12 2), .inl (cI, 16, .inl (fun _ => 0))), ((u_12 3), .inl (cI, 16, .inl (fun _ => 0))), ((u_12 4), .inl (cI, 16, .inl (fun _ => 0))), ((u_12 5), .inl (cI, 16, .inl (fun _ => 0))), (q_13, .inr (6, [.ref (u_15 0), .ref (u_15 1), .ref (u_15 2), .ref (u_15 3), .int 0])), ((u_15 0), .inl (cI, 40, .inl (fun _ => 0))), ((u_15 1), .inl (cI, 40, .inl (fun _ => 0))), ((u_15 2), .inl (cZ, 40, .inl (fun _ => 0))), ((u_15 3), .inl (cI, 40, .inl (fun _ => 0))), (q_16, .inr (2, [.ref (u_18 0), .ref (u_18 1), .int 0, .ref (u_18 2), .ref (u_18 3), .int 0])), ((u_18 0), .inl (cI, 8, .inl (fun _ => 0))), ((u_18 1), .inl (cI, 8, .inl (fun _ => 0))), ((u_18 2), .inl (cI, 8, .inl (fun _ => 0))), ((u_18 3), .inl (cJ, 256, .inr (.inl (fun _ => 0))))] H := hP
  have hD : va_D A [(h0, .inr (7, [.ref q_1, .ref q_4, .ref q_7, .ref q_10, .ref q_13, .ref q_16, .null, .int 0])), (q_1, .inr (4, [.ref (u_3 0), .int 0, .int (-1), .int 0, .ref (u_3 2), .int 0, .int 0, .int 0, .int 0, .int 0, .int 0])), ((u_3 0), .inr (5, [.ref (u_3 1), .int 1, .int 0, .int 100, .int 7, .int 14, .int 3, .int 1, .int 8])), ((u_3 1), .inl (cI, 8, .inl cyc0)), ((u_3 2), .inl (cB, 300, .inl (fun _ => 0))), (q_4, .inr (5, [.ref u_6, .int 1, .int 0, .int 100, .int 7, .int 14, .int 3, .int 1, .int 8])), (u_6, .inl (cI, 8, .inl cyc0)), (q_7, .inr (3, [.ref (u_9 0), .ref (u_9 1), .int 0, .int 0])), ((u_9 0), .inl (cI, 8, .inl (fun _ => 0))), ((u_9 1), .inl (cI, 8, .inl (fun _ => 0))), (q_10, .inr (1, [.ref (u_12 0), .ref (u_12 1), .ref (u_12 2), .ref (u_12 3), .ref (u_12 4), .ref (u_12 5), .int 0])), ((u_12 0), .inl (cI, 16, .inl (fun _ => 0))), ((u_12 1), .inl (cI, 16, .inl (fun _ => 0))), ((u_12 2), .inl (cI, 16, .inl (fun _ => 0))), ((u_12 3), .inl (cI, 16, .inl (fun _ => 0))), ((u_12 4), .inl (cI, 16, .inl (fun _ => 0))), ((u_12 5), .inl (cI, 16, .inl (fun _ => 0))), (q_13, .inr (6, [.ref (u_15 0), .ref (u_15 1), .ref (u_15 2), .ref (u_15 3), .int 0])), ((u_15 0), .inl (cI, 40, .inl (fun _ => 0))), ((u_15 1), .inl (cI, 40, .inl (fun _ => 0))), ((u_15 2), .inl (cZ, 40, .inl (fun _ => 0))), ((u_15 3), .inl (cI, 40, .inl (fun _ => 0))), (q_16, .inr (2, [.ref (u_18 0), .ref (u_18 1), .int 0, .ref (u_18 2), .ref (u_18 3), .int 0])), ((u_18 0), .inl (cI, 8, .inl (fun _ => 0))), ((u_18 1), .inl (cI, 8, .inl (fun _ => 0))), ((u_18 2), .inl (cI, 8, .inl (fun _ => 0))), ((u_18 3), .inl (cJ, 256, .inr (.inl (fun _ => 0))))] := hD
  refine lv_aload_n hx hb dX7_init_70 rfl (lv_at hl 0 rfl) ?_
  refine va_new (ci := 0) (fs := [.null, .null, .null, .int 0, .int 0, .int 0, .null, .null, .null]) (C := RX0) (T := TX0) (N := 9) hx hb hts w_42 tyX0 tyX0_ok hown w_43 w_44 w_45 hK hP hD hS hA rfl (nwX0) (Nat.le_of_ble_eq_true rfl) (Nat.le_of_ble_eq_true rfl) dX7_init_71 (fun q_19 H hP hD hS => ?_)
  have hP : va_P D vwCl [(h0, .inr (7, [.ref q_1, .ref q_4, .ref q_7, .ref q_10, .ref q_13, .ref q_16, .null, .int 0])), (q_1, .inr (4, [.ref (u_3 0), .int 0, .int (-1), .int 0, .ref (u_3 2), .int 0, .int 0, .int 0, .int 0, .int 0, .int 0])), ((u_3 0), .inr (5, [.ref (u_3 1), .int 1, .int 0, .int 100, .int 7, .int 14, .int 3, .int 1, .int 8])), ((u_3 1), .inl (cI, 8, .inl cyc0)), ((u_3 2), .inl (cB, 300, .inl (fun _ => 0))), (q_4, .inr (5, [.ref u_6, .int 1, .int 0, .int 100, .int 7, .int 14, .int 3, .int 1, .int 8])), (u_6, .inl (cI, 8, .inl cyc0)), (q_7, .inr (3, [.ref (u_9 0), .ref (u_9 1), .int 0, .int 0])), ((u_9 0), .inl (cI, 8, .inl (fun _ => 0))), ((u_9 1), .inl (cI, 8, .inl (fun _ => 0))), (q_10, .inr (1, [.ref (u_12 0), .ref (u_12 1), .ref (u_12 2), .ref (u_12 3), .ref (u_12 4), .ref (u_12 5), .int 0])), ((u_12 0), .inl (cI, 16, .inl (fun _ => 0))), ((u_12 1), .inl (cI, 16, .inl (fun _ => 0))), ((u_12 2), .inl (cI, 16, .inl (fun _ => 0))), ((u_12 3), .inl (cI, 16, .inl (fun _ => 0))), ((u_12 4), .inl (cI, 16, .inl (fun _ => 0))), ((u_12 5), .inl (cI, 16, .inl (fun _ => 0))), (q_13, .inr (6, [.ref (u_15 0), .ref (u_15 1), .ref (u_15 2), .ref (u_15 3), .int 0])), ((u_15 0), .inl (cI, 40, .inl (fun _ => 0))), ((u_15 1), .inl (cI, 40, .inl (fun _ => 0))), ((u_15 2), .inl (cZ, 40, .inl (fun _ => 0))), ((u_15 3), .inl (cI, 40, .inl (fun _ => 0))), (q_16, .inr (2, [.ref (u_18 0), .ref (u_18 1), .int 0, .ref (u_18 2), .ref (u_18 3), .int 0])), ((u_18 0), .inl (cI, 8, .inl (fun _ => 0))), ((u_18 1), .inl (cI, 8, .inl (fun _ => 0))), ((u_18 2), .inl (cI, 8, .inl (fun _ => 0))), ((u_18 3), .inl (cJ, 256, .inr (.inl (fun _ => 0)))), (q_19, .inr (0, [.null, .null, .null, .int 0, .int 0, .int 0, .null, .null, .null]))] H := hP
  have hD : va_D A [(h0, .inr (7, [.ref q_1, .ref q_4, .ref q_7, .ref q_10, .ref q_13, .ref q_16, .null, .int 0])), (q_1, .inr (4, [.ref (u_3 0), .int 0, .int (-1), .int 0, .ref (u_3 2), .int 0, .int 0, .int 0, .int 0, .int 0, .int 0])), ((u_3 0), .inr (5, [.ref (u_3 1), .int 1, .int 0, .int 100, .int 7, .int 14, .int 3, .int 1, .int 8])), ((u_3 1), .inl (cI, 8, .inl cyc0)), ((u_3 2), .inl (cB, 300, .inl (fun _ => 0))), (q_4, .inr (5, [.ref u_6, .int 1, .int 0, .int 100, .int 7, .int 14, .int 3, .int 1, .int 8])), (u_6, .inl (cI, 8, .inl cyc0)), (q_7, .inr (3, [.ref (u_9 0), .ref (u_9 1), .int 0, .int 0])), ((u_9 0), .inl (cI, 8, .inl (fun _ => 0))), ((u_9 1), .inl (cI, 8, .inl (fun _ => 0))), (q_10, .inr (1, [.ref (u_12 0), .ref (u_12 1), .ref (u_12 2), .ref (u_12 3), .ref (u_12 4), .ref (u_12 5), .int 0])), ((u_12 0), .inl (cI, 16, .inl (fun _ => 0))), ((u_12 1), .inl (cI, 16, .inl (fun _ => 0))), ((u_12 2), .inl (cI, 16, .inl (fun _ => 0))), ((u_12 3), .inl (cI, 16, .inl (fun _ => 0))), ((u_12 4), .inl (cI, 16, .inl (fun _ => 0))), ((u_12 5), .inl (cI, 16, .inl (fun _ => 0))), (q_13, .inr (6, [.ref (u_15 0), .ref (u_15 1), .ref (u_15 2), .ref (u_15 3), .int 0])), ((u_15 0), .inl (cI, 40, .inl (fun _ => 0))), ((u_15 1), .inl (cI, 40, .inl (fun _ => 0))), ((u_15 2), .inl (cZ, 40, .inl (fun _ => 0))), ((u_15 3), .inl (cI, 40, .inl (fun _ => 0))), (q_16, .inr (2, [.ref (u_18 0), .ref (u_18 1), .int 0, .ref (u_18 2), .ref (u_18 3), .int 0])), ((u_18 0), .inl (cI, 8, .inl (fun _ => 0))), ((u_18 1), .inl (cI, 8, .inl (fun _ => 0))), ((u_18 2), .inl (cI, 8, .inl (fun _ => 0))), ((u_18 3), .inl (cJ, 256, .inr (.inl (fun _ => 0)))), (q_19, .inr (0, [.null, .null, .null, .int 0, .int 0, .int 0, .null, .null, .null]))] := hD
  refine W.widen (k := 27) (n := 928) (Nat.le_refl _) (Nat.le_refl _) ?_
  refine lv_dup hx hb dX7_init_74 rfl ?_
  refine cl_v (wc := [(q_19, .inr (0, [.null, .null, .null, .int 0, .int 0, .int 0, .null, .null, .null]))]) (wr := [(h0, .inr (7, [.ref q_1, .ref q_4, .ref q_7, .ref q_10, .ref q_13, .ref q_16, .null, .int 0])), (q_1, .inr (4, [.ref (u_3 0), .int 0, .int (-1), .int 0, .ref (u_3 2), .int 0, .int 0, .int 0, .int 0, .int 0, .int 0])), ((u_3 0), .inr (5, [.ref (u_3 1), .int 1, .int 0, .int 100, .int 7, .int 14, .int 3, .int 1, .int 8])), ((u_3 1), .inl (cI, 8, .inl cyc0)), ((u_3 2), .inl (cB, 300, .inl (fun _ => 0))), (q_4, .inr (5, [.ref u_6, .int 1, .int 0, .int 100, .int 7, .int 14, .int 3, .int 1, .int 8])), (u_6, .inl (cI, 8, .inl cyc0)), (q_7, .inr (3, [.ref (u_9 0), .ref (u_9 1), .int 0, .int 0])), ((u_9 0), .inl (cI, 8, .inl (fun _ => 0))), ((u_9 1), .inl (cI, 8, .inl (fun _ => 0))), (q_10, .inr (1, [.ref (u_12 0), .ref (u_12 1), .ref (u_12 2), .ref (u_12 3), .ref (u_12 4), .ref (u_12 5), .int 0])), ((u_12 0), .inl (cI, 16, .inl (fun _ => 0))), ((u_12 1), .inl (cI, 16, .inl (fun _ => 0))), ((u_12 2), .inl (cI, 16, .inl (fun _ => 0))), ((u_12 3), .inl (cI, 16, .inl (fun _ => 0))), ((u_12 4), .inl (cI, 16, .inl (fun _ => 0))), ((u_12 5), .inl (cI, 16, .inl (fun _ => 0))), (q_13, .inr (6, [.ref (u_15 0), .ref (u_15 1), .ref (u_15 2), .ref (u_15 3), .int 0])), ((u_15 0), .inl (cI, 40, .inl (fun _ => 0))), ((u_15 1), .inl (cI, 40, .inl (fun _ => 0))), ((u_15 2), .inl (cZ, 40, .inl (fun _ => 0))), ((u_15 3), .inl (cI, 40, .inl (fun _ => 0))), (q_16, .inr (2, [.ref (u_18 0), .ref (u_18 1), .int 0, .ref (u_18 2), .ref (u_18 3), .int 0])), ((u_18 0), .inl (cI, 8, .inl (fun _ => 0))), ((u_18 1), .inl (cI, 8, .inl (fun _ => 0))), ((u_18 2), .inl (cI, 8, .inl (fun _ => 0))), ((u_18 3), .inl (cJ, 256, .inr (.inl (fun _ => 0))))]) (va_runIN (As := []) (rest := [.ref q_19, .ref h0]) ⟨hx, hb, hml, hown, hts⟩ (k_X0_init l D cB cI cJ cZ H.size q_19) ⟨va_cnB 0 hts gX7_init_X0_init_n53 rfl rfl rfl hNw.2.2.2.2.2 w_45 (by decide +kernel) ⟨Nat.le_of_ble_eq_true rfl, Nat.le_of_ble_eq_true rfl⟩, rfl, w_46⟩ (pre_I (hP.sub (ws' := [(q_19, .inr (0, [.null, .null, .null, .int 0, .int 0, .int 0, .null, .null, .null]))]) [27] rfl) hK (hD.sub (ws' := [(q_19, .inr (0, [.null, .null, .null, .int 0, .int 0, .int 0, .null, .null, .null]))]) [27] (by decide) rfl) rfl) rfl rfl hl.1 rfl (lv_room (Nat.le_of_ble_eq_true rfl)) dX7_init_75 ⟨Nat.le_of_ble_eq_true rfl, Nat.le_of_ble_eq_true rfl⟩) hP hD hS hA [27] [0, 1, 2, 3, 4, 5, 6, 7, 8, 9, 10, 11, 12, 13, 14, 15, 16, 17, 18, 19, 20, 21, 22, 23, 24, 25, 26] rfl rfl (by decide) (by decide) 33 1028 rfl rfl (fun u_21 H locs hw_u_21 hP hD hS => ?_)
  have hP : va_P D vwCl [(h0, .inr (7, [.ref q_1, .ref q_4, .ref q_7, .ref q_10, .ref q_13, .ref q_16, .null, .int 0])), (q_1, .inr (4, [.ref (u_3 0), .int 0, .int (-1), .int 0, .ref (u_3 2), .int 0, .int 0, .int 0, .int 0, .int 0, .int 0])), ((u_3 0), .inr (5, [.ref (u_3 1), .int 1, .int 0, .int 100, .int 7, .int 14, .int 3, .int 1, .int 8])), ((u_3 1), .inl (cI, 8, .inl cyc0)), ((u_3 2), .inl (cB, 300, .inl (fun _ => 0))), (q_4, .inr (5, [.ref u_6, .int 1, .int 0, .int 100, .int 7, .int 14, .int 3, .int 1, .int 8])), (u_6, .inl (cI, 8, .inl cyc0)), (q_7, .inr (3, [.ref (u_9 0), .ref (u_9 1), .int 0, .int 0])), ((u_9 0), .inl (cI, 8, .inl (fun _ => 0))), ((u_9 1), .inl (cI, 8, .inl (fun _ => 0))), (q_10, .inr (1, [.ref (u_12 0), .ref (u_12 1), .ref (u_12 2), .ref (u_12 3), .ref (u_12 4), .ref (u_12 5), .int 0])), ((u_12 0), .inl (cI, 16, .inl (fun _ => 0))), ((u_12 1), .inl (cI, 16, .inl (fun _ => 0))), ((u_12 2), .inl (cI, 16, .inl (fun _ => 0))), ((u_12 3), .inl (cI, 16, .inl (fun _ => 0))), ((u_12 4), .inl (cI, 16, .inl (fun _ => 0))), ((u_12 5), .inl (cI, 16, .inl (fun _ => 0))), (q_13, .inr (6, [.ref (u_15 0), .ref (u_15 1), .ref (u_15 2), .ref (u_15 3), .int 0])), ((u_15 0), .inl (cI, 40, .inl (fun _ => 0))), ((u_15 1), .inl (cI, 40, .inl (fun _ => 0))), ((u_15 2), .inl (cZ, 40, .inl (fun _ => 0))), ((u_15 3), .inl (cI, 40, .inl (fun _ => 0))), (q_16, .inr (2, [.ref (u_18 0), .ref (u_18 1), .int 0, .ref (u_18 2), .ref (u_18 3), .int 0])), ((u_18 0), .inl (cI, 8, .inl (fun _ => 0))), ((u_18 1), .inl (cI, 8, .inl (fun _ => 0))), ((u_18 2), .inl (cI, 8, .inl (fun _ => 0))), ((u_18 3), .inl (cJ, 256, .inr (.inl (fun _ => 0)))), (q_19, .inr (0, [.ref (u_21 0), .ref (u_21 1), .ref (u_21 2), .int 0, .int 0, .int 0, .ref (u_21 3), .ref (u_21 4), .ref (u_21 5)])), ((u_21 0), .inl (cI, 6, .inl (fun _ => 0))), ((u_21 1), .inl (cI, 6, .inl (fun _ => 0))), ((u_21 2), .inl (cI, 8, .inl (fun _ => 0))), ((u_21 3), .inl (cI, 8, .inl (fun _ => 0))), ((u_21 4), .inl (cI, 8, .inl (fun _ => 0))), ((u_21 5), .inl (cI, 64, .inl (fun _ => 0)))] H := hP
  have hD : va_D A [(h0, .inr (7, [.ref q_1, .ref q_4, .ref q_7, .ref q_10, .ref q_13, .ref q_16, .null, .int 0])), (q_1, .inr (4, [.ref (u_3 0), .int 0, .int (-1), .int 0, .ref (u_3 2), .int 0, .int 0, .int 0, .int 0, .int 0, .int 0])), ((u_3 0), .inr (5, [.ref (u_3 1), .int 1, .int 0, .int 100, .int 7, .int 14, .int 3, .int 1, .int 8])), ((u_3 1), .inl (cI, 8, .inl cyc0)), ((u_3 2), .inl (cB, 300, .inl (fun _ => 0))), (q_4, .inr (5, [.ref u_6, .int 1, .int 0, .int 100, .int 7, .int 14, .int 3, .int 1, .int 8])), (u_6, .inl (cI, 8, .inl cyc0)), (q_7, .inr (3, [.ref (u_9 0), .ref (u_9 1), .int 0, .int 0])), ((u_9 0), .inl (cI, 8, .inl (fun _ => 0))), ((u_9 1), .inl (cI, 8, .inl (fun _ => 0))), (q_10, .inr (1, [.ref (u_12 0), .ref (u_12 1), .ref (u_12 2), .ref (u_12 3), .ref (u_12 4), .ref (u_12 5), .int 0])), ((u_12 0), .inl (cI, 16, .inl (fun _ => 0))), ((u_12 1), .inl (cI, 16, .inl (fun _ => 0))), ((u_12 2), .inl (cI, 16, .inl (fun _ => 0))), ((u_12 3), .inl (cI, 16, .inl (fun _ => 0))), ((u_12 4), .inl (cI, 16, .inl (fun _ => 0))), ((u_12 5), .inl (cI, 16, .inl (fun _ => 0))), (q_13, .inr (6, [.ref (u_15 0), .ref (u_15 1), .ref (u_15 2), .ref (u_15 3), .int 0])), ((u_15 0), .inl (cI, 40, .inl (fun _ => 0))), ((u_15 1), .inl (cI, 40, .inl (fun _ => 0))), ((u_15 2), .inl (cZ, 40, .inl (fun _ => 0))), ((u_15 3), .inl (cI, 40, .inl (fun _ => 0))), (q_16, .inr (2, [.ref (u_18 0), .ref (u_18 1), .int 0, .ref (u_18 2), .ref (u_18 3), .int 0])), ((u_18 0), .inl (cI, 8, .inl (fun _ => 0))), ((u_18 1), .inl (cI, 8, .inl (fun _ => 0))), ((u_18 2), .inl (cI, 8, .inl (fun _ => 0))), ((u_18 3), .inl (cJ, 256, .inr (.inl (fun _ => 0)))), (q_19, .inr (0, [.ref (u_21 0), .ref (u_21 1), .ref (u_21 2), .int 0, .int 0, .int 0, .ref (u_21 3), .ref (u_21 4), .ref (u_21 5)])), ((u_21 0), .inl (cI, 6, .inl (fun _ => 0))), ((u_21 1), .inl (cI, 6, .inl (fun _ => 0))), ((u_21 2), .inl (cI, 8, .inl (fun _ => 0))), ((u_21 3), .inl (cI, 8, .inl (fun _ => 0))), ((u_21 4), .inl (cI, 8, .inl (fun _ => 0))), ((u_21 5), .inl (cI, 64, .inl (fun _ => 0)))] := hD
  refine va_putF (D := D) (ci := 7) (v := .ref q_19) (ty := .object "BlueCoats$Chest") (C := RX7) (T := TX7) (N := 8) hx hb hts w_9 tyX7 tyX7_ok nmX7 hown hK hP hD hS 0 rfl rfl 6 (by decide) w_47 (fun _ h9 => h9) rfl hin rfl (by decide +kernel) rfl rfl (Nat.le_of_ble_eq_true rfl) dX7_init_78 (fun H locs hP hD hS => ?_)
  have hP : va_P D vwCl [(h0, .inr (7, [.ref q_1, .ref q_4, .ref q_7, .ref q_10, .ref q_13, .ref q_16, .ref q_19, .int 0])), (q_1, .inr (4, [.ref (u_3 0), .int 0, .int (-1), .int 0, .ref (u_3 2), .int 0, .int 0, .int 0, .int 0, .int 0, .int 0])), ((u_3 0), .inr (5, [.ref (u_3 1), .int 1, .int 0, .int 100, .int 7, .int 14, .int 3, .int 1, .int 8])), ((u_3 1), .inl (cI, 8, .inl cyc0)), ((u_3 2), .inl (cB, 300, .inl (fun _ => 0))), (q_4, .inr (5, [.ref u_6, .int 1, .int 0, .int 100, .int 7, .int 14, .int 3, .int 1, .int 8])), (u_6, .inl (cI, 8, .inl cyc0)), (q_7, .inr (3, [.ref (u_9 0), .ref (u_9 1), .int 0, .int 0])), ((u_9 0), .inl (cI, 8, .inl (fun _ => 0))), ((u_9 1), .inl (cI, 8, .inl (fun _ => 0))), (q_10, .inr (1, [.ref (u_12 0), .ref (u_12 1), .ref (u_12 2), .ref (u_12 3), .ref (u_12 4), .ref (u_12 5), .int 0])), ((u_12 0), .inl (cI, 16, .inl (fun _ => 0))), ((u_12 1), .inl (cI, 16, .inl (fun _ => 0))), ((u_12 2), .inl (cI, 16, .inl (fun _ => 0))), ((u_12 3), .inl (cI, 16, .inl (fun _ => 0))), ((u_12 4), .inl (cI, 16, .inl (fun _ => 0))), ((u_12 5), .inl (cI, 16, .inl (fun _ => 0))), (q_13, .inr (6, [.ref (u_15 0), .ref (u_15 1), .ref (u_15 2), .ref (u_15 3), .int 0])), ((u_15 0), .inl (cI, 40, .inl (fun _ => 0))), ((u_15 1), .inl (cI, 40, .inl (fun _ => 0))), ((u_15 2), .inl (cZ, 40, .inl (fun _ => 0))), ((u_15 3), .inl (cI, 40, .inl (fun _ => 0))), (q_16, .inr (2, [.ref (u_18 0), .ref (u_18 1), .int 0, .ref (u_18 2), .ref (u_18 3), .int 0])), ((u_18 0), .inl (cI, 8, .inl (fun _ => 0))), ((u_18 1), .inl (cI, 8, .inl (fun _ => 0))), ((u_18 2), .inl (cI, 8, .inl (fun _ => 0))), ((u_18 3), .inl (cJ, 256, .inr (.inl (fun _ => 0)))), (q_19, .inr (0, [.ref (u_21 0), .ref (u_21 1), .ref (u_21 2), .int 0, .int 0, .int 0, .ref (u_21 3), .ref (u_21 4), .ref (u_21 5)])), ((u_21 0), .inl (cI, 6, .inl (fun _ => 0))), ((u_21 1), .inl (cI, 6, .inl (fun _ => 0))), ((u_21 2), .inl (cI, 8, .inl (fun _ => 0))), ((u_21 3), .inl (cI, 8, .inl (fun _ => 0))), ((u_21 4), .inl (cI, 8, .inl (fun _ => 0))), ((u_21 5), .inl (cI, 64, .inl (fun _ => 0)))] H := hP
  have hD : va_D A [(h0, .inr (7, [.ref q_1, .ref q_4, .ref q_7, .ref q_10, .ref q_13, .ref q_16, .ref q_19, .int 0])), (q_1, .inr (4, [.ref (u_3 0), .int 0, .int (-1), .int 0, .ref (u_3 2), .int 0, .int 0, .int 0, .int 0, .int 0, .int 0])), ((u_3 0), .inr (5, [.ref (u_3 1), .int 1, .int 0, .int 100, .int 7, .int 14, .int 3, .int 1, .int 8])), ((u_3 1), .inl (cI, 8, .inl cyc0)), ((u_3 2), .inl (cB, 300, .inl (fun _ => 0))), (q_4, .inr (5, [.ref u_6, .int 1, .int 0, .int 100, .int 7, .int 14, .int 3, .int 1, .int 8])), (u_6, .inl (cI, 8, .inl cyc0)), (q_7, .inr (3, [.ref (u_9 0), .ref (u_9 1), .int 0, .int 0])), ((u_9 0), .inl (cI, 8, .inl (fun _ => 0))), ((u_9 1), .inl (cI, 8, .inl (fun _ => 0))), (q_10, .inr (1, [.ref (u_12 0), .ref (u_12 1), .ref (u_12 2), .ref (u_12 3), .ref (u_12 4), .ref (u_12 5), .int 0])), ((u_12 0), .inl (cI, 16, .inl (fun _ => 0))), ((u_12 1), .inl (cI, 16, .inl (fun _ => 0))), ((u_12 2), .inl (cI, 16, .inl (fun _ => 0))), ((u_12 3), .inl (cI, 16, .inl (fun _ => 0))), ((u_12 4), .inl (cI, 16, .inl (fun _ => 0))), ((u_12 5), .inl (cI, 16, .inl (fun _ => 0))), (q_13, .inr (6, [.ref (u_15 0), .ref (u_15 1), .ref (u_15 2), .ref (u_15 3), .int 0])), ((u_15 0), .inl (cI, 40, .inl (fun _ => 0))), ((u_15 1), .inl (cI, 40, .inl (fun _ => 0))), ((u_15 2), .inl (cZ, 40, .inl (fun _ => 0))), ((u_15 3), .inl (cI, 40, .inl (fun _ => 0))), (q_16, .inr (2, [.ref (u_18 0), .ref (u_18 1), .int 0, .ref (u_18 2), .ref (u_18 3), .int 0])), ((u_18 0), .inl (cI, 8, .inl (fun _ => 0))), ((u_18 1), .inl (cI, 8, .inl (fun _ => 0))), ((u_18 2), .inl (cI, 8, .inl (fun _ => 0))), ((u_18 3), .inl (cJ, 256, .inr (.inl (fun _ => 0)))), (q_19, .inr (0, [.ref (u_21 0), .ref (u_21 1), .ref (u_21 2), .int 0, .int 0, .int 0, .ref (u_21 3), .ref (u_21 4), .ref (u_21 5)])), ((u_21 0), .inl (cI, 6, .inl (fun _ => 0))), ((u_21 1), .inl (cI, 6, .inl (fun _ => 0))), ((u_21 2), .inl (cI, 8, .inl (fun _ => 0))), ((u_21 3), .inl (cI, 8, .inl (fun _ => 0))), ((u_21 4), .inl (cI, 8, .inl (fun _ => 0))), ((u_21 5), .inl (cI, 64, .inl (fun _ => 0)))] := hD
  refine lv_aload_n hx hb dX7_init_81 rfl (lv_at hl 0 rfl) ?_
  refine lv_iconst (v := 0) hx hb dX7_init_82 (by decide) ?_
  refine va_put (D := D) (ci := 7) (v := .int 0) (ty := .int) (C := RX7) (T := TX7) (N := 8) hx hb hts w_9 tyX7 tyX7_ok nmX7 hown hK hP hD hS 0 rfl rfl 7 (by decide) w_48 (fun _ h9 => h9) rfl (by decide +kernel) rfl rfl (Nat.le_of_ble_eq_true rfl) dX7_init_83 (fun H locs hP hD hS => ?_)
  have hP : va_P D vwCl [(h0, .inr (7, [.ref q_1, .ref q_4, .ref q_7, .ref q_10, .ref q_13, .ref q_16, .ref q_19, .int 0])), (q_1, .inr (4, [.ref (u_3 0), .int 0, .int (-1), .int 0, .ref (u_3 2), .int 0, .int 0, .int 0, .int 0, .int 0, .int 0])), ((u_3 0), .inr (5, [.ref (u_3 1), .int 1, .int 0, .int 100, .int 7, .int 14, .int 3, .int 1, .int 8])), ((u_3 1), .inl (cI, 8, .inl cyc0)), ((u_3 2), .inl (cB, 300, .inl (fun _ => 0))), (q_4, .inr (5, [.ref u_6, .int 1, .int 0, .int 100, .int 7, .int 14, .int 3, .int 1, .int 8])), (u_6, .inl (cI, 8, .inl cyc0)), (q_7, .inr (3, [.ref (u_9 0), .ref (u_9 1), .int 0, .int 0])), ((u_9 0), .inl (cI, 8, .inl (fun _ => 0))), ((u_9 1), .inl (cI, 8, .inl (fun _ => 0))), (q_10, .inr (1, [.ref (u_12 0), .ref (u_12 1), .ref (u_12 2), .ref (u_12 3), .ref (u_12 4), .ref (u_12 5), .int 0])), ((u_12 0), .inl (cI, 16, .inl (fun _ => 0))), ((u_12 1), .inl (cI, 16, .inl (fun _ => 0))), ((u_12 2), .inl (cI, 16, .inl (fun _ => 0))), ((u_12 3), .inl (cI, 16, .inl (fun _ => 0))), ((u_12 4), .inl (cI, 16, .inl (fun _ => 0))), ((u_12 5), .inl (cI, 16, .inl (fun _ => 0))), (q_13, .inr (6, [.ref (u_15 0), .ref (u_15 1), .ref (u_15 2), .ref (u_15 3), .int 0])), ((u_15 0), .inl (cI, 40, .inl (fun _ => 0))), ((u_15 1), .inl (cI, 40, .inl (fun _ => 0))), ((u_15 2), .inl (cZ, 40, .inl (fun _ => 0))), ((u_15 3), .inl (cI, 40, .inl (fun _ => 0))), (q_16, .inr (2, [.ref (u_18 0), .ref (u_18 1), .int 0, .ref (u_18 2), .ref (u_18 3), .int 0])), ((u_18 0), .inl (cI, 8, .inl (fun _ => 0))), ((u_18 1), .inl (cI, 8, .inl (fun _ => 0))), ((u_18 2), .inl (cI, 8, .inl (fun _ => 0))), ((u_18 3), .inl (cJ, 256, .inr (.inl (fun _ => 0)))), (q_19, .inr (0, [.ref (u_21 0), .ref (u_21 1), .ref (u_21 2), .int 0, .int 0, .int 0, .ref (u_21 3), .ref (u_21 4), .ref (u_21 5)])), ((u_21 0), .inl (cI, 6, .inl (fun _ => 0))), ((u_21 1), .inl (cI, 6, .inl (fun _ => 0))), ((u_21 2), .inl (cI, 8, .inl (fun _ => 0))), ((u_21 3), .inl (cI, 8, .inl (fun _ => 0))), ((u_21 4), .inl (cI, 8, .inl (fun _ => 0))), ((u_21 5), .inl (cI, 64, .inl (fun _ => 0)))] H := hP
  have hD : va_D A [(h0, .inr (7, [.ref q_1, .ref q_4, .ref q_7, .ref q_10, .ref q_13, .ref q_16, .ref q_19, .int 0])), (q_1, .inr (4, [.ref (u_3 0), .int 0, .int (-1), .int 0, .ref (u_3 2), .int 0, .int 0, .int 0, .int 0, .int 0, .int 0])), ((u_3 0), .inr (5, [.ref (u_3 1), .int 1, .int 0, .int 100, .int 7, .int 14, .int 3, .int 1, .int 8])), ((u_3 1), .inl (cI, 8, .inl cyc0)), ((u_3 2), .inl (cB, 300, .inl (fun _ => 0))), (q_4, .inr (5, [.ref u_6, .int 1, .int 0, .int 100, .int 7, .int 14, .int 3, .int 1, .int 8])), (u_6, .inl (cI, 8, .inl cyc0)), (q_7, .inr (3, [.ref (u_9 0), .ref (u_9 1), .int 0, .int 0])), ((u_9 0), .inl (cI, 8, .inl (fun _ => 0))), ((u_9 1), .inl (cI, 8, .inl (fun _ => 0))), (q_10, .inr (1, [.ref (u_12 0), .ref (u_12 1), .ref (u_12 2), .ref (u_12 3), .ref (u_12 4), .ref (u_12 5), .int 0])), ((u_12 0), .inl (cI, 16, .inl (fun _ => 0))), ((u_12 1), .inl (cI, 16, .inl (fun _ => 0))), ((u_12 2), .inl (cI, 16, .inl (fun _ => 0))), ((u_12 3), .inl (cI, 16, .inl (fun _ => 0))), ((u_12 4), .inl (cI, 16, .inl (fun _ => 0))), ((u_12 5), .inl (cI, 16, .inl (fun _ => 0))), (q_13, .inr (6, [.ref (u_15 0), .ref (u_15 1), .ref (u_15 2), .ref (u_15 3), .int 0])), ((u_15 0), .inl (cI, 40, .inl (fun _ => 0))), ((u_15 1), .inl (cI, 40, .inl (fun _ => 0))), ((u_15 2), .inl (cZ, 40, .inl (fun _ => 0))), ((u_15 3), .inl (cI, 40, .inl (fun _ => 0))), (q_16, .inr (2, [.ref (u_18 0), .ref (u_18 1), .int 0, .ref (u_18 2), .ref (u_18 3), .int 0])), ((u_18 0), .inl (cI, 8, .inl (fun _ => 0))), ((u_18 1), .inl (cI, 8, .inl (fun _ => 0))), ((u_18 2), .inl (cI, 8, .inl (fun _ => 0))), ((u_18 3), .inl (cJ, 256, .inr (.inl (fun _ => 0)))), (q_19, .inr (0, [.ref (u_21 0), .ref (u_21 1), .ref (u_21 2), .int 0, .int 0, .int 0, .ref (u_21 3), .ref (u_21 4), .ref (u_21 5)])), ((u_21 0), .inl (cI, 6, .inl (fun _ => 0))), ((u_21 1), .inl (cI, 6, .inl (fun _ => 0))), ((u_21 2), .inl (cI, 8, .inl (fun _ => 0))), ((u_21 3), .inl (cI, 8, .inl (fun _ => 0))), ((u_21 4), .inl (cI, 8, .inl (fun _ => 0))), ((u_21 5), .inl (cI, 64, .inl (fun _ => 0)))] := hD
  have hP9 := hP.sub (ws' := [(h0, .inr (7, [.ref q_1, .ref q_4, .ref q_7, .ref q_10, .ref q_13, .ref q_16, .ref q_19, .int 0])), (q_1, .inr (4, [.ref (u_3 0), .int 0, .int (-1), .int 0, .ref (u_3 2), .int 0, .int 0, .int 0, .int 0, .int 0, .int 0])), ((u_3 0), .inr (5, [.ref (u_3 1), .int 1, .int 0, .int 100, .int 7, .int 14, .int 3, .int 1, .int 8])), ((u_3 1), .inl (cI, 8, .inl cyc0)), ((u_3 2), .inl (cB, 300, .inl (fun _ => 0))), (q_4, .inr (5, [.ref u_6, .int 1, .int 0, .int 100, .int 7, .int 14, .int 3, .int 1, .int 8])), (u_6, .inl (cI, 8, .inl cyc0)), (q_7, .inr (3, [.ref (u_9 0), .ref (u_9 1), .int 0, .int 0])), ((u_9 0), .inl (cI, 8, .inl (fun _ => 0))), ((u_9 1), .inl (cI, 8, .inl (fun _ => 0))), (q_10, .inr (1, [.ref (u_12 0), .ref (u_12 1), .ref (u_12 2), .ref (u_12 3), .ref (u_12 4), .ref (u_12 5), .int 0])), ((u_12 0), .inl (cI, 16, .inl (fun _ => 0))), ((u_12 1), .inl (cI, 16, .inl (fun _ => 0))), ((u_12 2), .inl (cI, 16, .inl (fun _ => 0))), ((u_12 3), .inl (cI, 16, .inl (fun _ => 0))), ((u_12 4), .inl (cI, 16, .inl (fun _ => 0))), ((u_12 5), .inl (cI, 16, .inl (fun _ => 0))), (q_13, .inr (6, [.ref (u_15 0), .ref (u_15 1), .ref (u_15 2), .ref (u_15 3), .int 0])), ((u_15 0), .inl (cI, 40, .inl (fun _ => 0))), ((u_15 1), .inl (cI, 40, .inl (fun _ => 0))), ((u_15 2), .inl (cZ, 40, .inl (fun _ => 0))), ((u_15 3), .inl (cI, 40, .inl (fun _ => 0))), (q_16, .inr (2, [.ref (u_18 0), .ref (u_18 1), .int 0, .ref (u_18 2), .ref (u_18 3), .int 0])), ((u_18 0), .inl (cI, 8, .inl (fun _ => 0))), ((u_18 1), .inl (cI, 8, .inl (fun _ => 0))), ((u_18 2), .inl (cI, 8, .inl (fun _ => 0))), ((u_18 3), .inl (cJ, 256, .inr (.inl (fun _ => 0)))), (q_19, .inr (0, [.ref (u_21 0), .ref (u_21 1), .ref (u_21 2), .int 0, .int 0, .int 0, .ref (u_21 3), .ref (u_21 4), .ref (u_21 5)])), ((u_21 0), .inl (cI, 6, .inl (fun _ => 0))), ((u_21 1), .inl (cI, 6, .inl (fun _ => 0))), ((u_21 2), .inl (cI, 8, .inl (fun _ => 0))), ((u_21 3), .inl (cI, 8, .inl (fun _ => 0))), ((u_21 4), .inl (cI, 8, .inl (fun _ => 0))), ((u_21 5), .inl (cI, 64, .inl (fun _ => 0)))]) [0, 1, 2, 3, 4, 5, 6, 7, 8, 9, 10, 11, 12, 13, 14, 15, 16, 17, 18, 19, 20, 21, 22, 23, 24, 25, 26, 27, 28, 29, 30, 31, 32, 33] rfl
  have hD9 := hD.sub (ws' := [(h0, .inr (7, [.ref q_1, .ref q_4, .ref q_7, .ref q_10, .ref q_13, .ref q_16, .ref q_19, .int 0])), (q_1, .inr (4, [.ref (u_3 0), .int 0, .int (-1), .int 0, .ref (u_3 2), .int 0, .int 0, .int 0, .int 0, .int 0, .int 0])), ((u_3 0), .inr (5, [.ref (u_3 1), .int 1, .int 0, .int 100, .int 7, .int 14, .int 3, .int 1, .int 8])), ((u_3 1), .inl (cI, 8, .inl cyc0)), ((u_3 2), .inl (cB, 300, .inl (fun _ => 0))), (q_4, .inr (5, [.ref u_6, .int 1, .int 0, .int 100, .int 7, .int 14, .int 3, .int 1, .int 8])), (u_6, .inl (cI, 8, .inl cyc0)), (q_7, .inr (3, [.ref (u_9 0), .ref (u_9 1), .int 0, .int 0])), ((u_9 0), .inl (cI, 8, .inl (fun _ => 0))), ((u_9 1), .inl (cI, 8, .inl (fun _ => 0))), (q_10, .inr (1, [.ref (u_12 0), .ref (u_12 1), .ref (u_12 2), .ref (u_12 3), .ref (u_12 4), .ref (u_12 5), .int 0])), ((u_12 0), .inl (cI, 16, .inl (fun _ => 0))), ((u_12 1), .inl (cI, 16, .inl (fun _ => 0))), ((u_12 2), .inl (cI, 16, .inl (fun _ => 0))), ((u_12 3), .inl (cI, 16, .inl (fun _ => 0))), ((u_12 4), .inl (cI, 16, .inl (fun _ => 0))), ((u_12 5), .inl (cI, 16, .inl (fun _ => 0))), (q_13, .inr (6, [.ref (u_15 0), .ref (u_15 1), .ref (u_15 2), .ref (u_15 3), .int 0])), ((u_15 0), .inl (cI, 40, .inl (fun _ => 0))), ((u_15 1), .inl (cI, 40, .inl (fun _ => 0))), ((u_15 2), .inl (cZ, 40, .inl (fun _ => 0))), ((u_15 3), .inl (cI, 40, .inl (fun _ => 0))), (q_16, .inr (2, [.ref (u_18 0), .ref (u_18 1), .int 0, .ref (u_18 2), .ref (u_18 3), .int 0])), ((u_18 0), .inl (cI, 8, .inl (fun _ => 0))), ((u_18 1), .inl (cI, 8, .inl (fun _ => 0))), ((u_18 2), .inl (cI, 8, .inl (fun _ => 0))), ((u_18 3), .inl (cJ, 256, .inr (.inl (fun _ => 0)))), (q_19, .inr (0, [.ref (u_21 0), .ref (u_21 1), .ref (u_21 2), .int 0, .int 0, .int 0, .ref (u_21 3), .ref (u_21 4), .ref (u_21 5)])), ((u_21 0), .inl (cI, 6, .inl (fun _ => 0))), ((u_21 1), .inl (cI, 6, .inl (fun _ => 0))), ((u_21 2), .inl (cI, 8, .inl (fun _ => 0))), ((u_21 3), .inl (cI, 8, .inl (fun _ => 0))), ((u_21 4), .inl (cI, 8, .inl (fun _ => 0))), ((u_21 5), .inl (cI, 64, .inl (fun _ => 0)))]) [0, 1, 2, 3, 4, 5, 6, 7, 8, 9, 10, 11, 12, 13, 14, 15, 16, 17, 18, 19, 20, 21, 22, 23, 24, 25, 26, 27, 28, 29, 30, 31, 32, 33] (by decide) rfl
  exact W.vret hx hb hr (fun t ht hW => ⟨⟨(fun k => ([h0, q_1, (u_3 0), (u_3 1), (u_3 2), q_4, u_6, q_7, (u_9 0), (u_9 1), q_10, (u_12 0), (u_12 1), (u_12 2), (u_12 3), (u_12 4), (u_12 5), q_13, (u_15 0), (u_15 1), (u_15 2), (u_15 3), q_16, (u_18 0), (u_18 1), (u_18 2), (u_18 3), q_19, (u_21 0), (u_21 1), (u_21 2), (u_21 3), (u_21 4), (u_21 5)] : List Nat).getD k 0), rfl, rfl, by rw [ht]; exact hP9, va_K.moved hW.alike hK, hD9⟩, hS.F ht⟩) hS.2.2 dX7_init_86
end
section
set_option maxHeartbeats 4000000 in
set_option maxRecDepth 100000 in
/-- nobody is there -/
theorem k_X3_has (l : Launch) (D : va_G) (cB cI cJ cZ : ClassId) (h0 p0 p1 : Nat) (g : Int32) : Met l yX3_has wsX3_has ({ frames := 0, cells := 0, slots := 0, locals := 0 } : Room) (cRd D (aTy cB cI cJ cZ) [(h0, .inr (3, [.ref p0, .ref p1, .int 0, .int 0]))] [.ref h0, .int g]) (vp_Si (fun r : Int32 => r = 0)) 0 0 (fun _ => False) := by
  refine Met.ofW (cc := cX3_has) (maxL := 2) (ret := (some .boolean)) (by decide) rfl ?_
  intro p e s m args below meth c s₁ B hml hv
  obtain ⟨rfl, hP, hK⟩ := hv
  have hx := B.exec
  have hb := B.bytes
  have hr := B.returns
  have hts := atoms_spec (ws := wsX3_has) B.pre
  have hown : s.vm.findClass RX3 = some m.cls := findClass_of_methodNamed B.named
  have hlocks := B.notSynchronized
  have hP : va_P D vwCl [(h0, .inr (3, [.ref p0, .ref p1, .int 0, .int 0]))] s.heap := hP
  have w_1 : ∀ w ∈ wsX30, w ∈ wsX3_has := by decide +kernel
  have w_2 := hts (Cond.fieldLink RX3 18 "BlueCoats$Givers" "number" "I") (by decide +kernel)
  have hl := lv_entry ([.ref h0, .int g]) (n := 2) (Nat.le_of_ble_eq_true rfl)
  rw [lg_entry_eq]
  generalize (lg_sl ([.ref h0, .int g]) ++ List.replicate (2 - (lg_sl ([.ref h0, .int g])).length) Slot.unset).toArray = ls at hl ⊢
  have hl : lv_has ls 2 [(0, .ref h0), (1, .int g)] := hl
  refine lv_iload_n hx hb dX3_has_0 rfl (lv_at hl 1 rfl) ?_
  refine lv_if_lt (tgt := 16) hx hb dX3_has_1 (by decide) (fun c_1 => ?_) (fun c_1 => ?_)
  ·
    refine lv_iconst (v := 0) hx hb dX3_has_16 (by decide) ?_
    exact W.zret (v := 0) hx hb hr rfl (fun t ht hW => ⟨_, rfl, rfl, ht⟩) (fun q h => nomatch h) dX3_has_17
  ·
    refine lv_iload_n hx hb dX3_has_4 rfl (lv_at hl 1 rfl) ?_
    refine lv_aload_n hx hb dX3_has_5 rfl (lv_at hl 0 rfl) ?_
    refine va_get (D := D) (ci := 3) (v := .int 0) (C := RX3) (T := TX3) (N := 4) hx hb hts w_1 hown hK hP 0 rfl rfl 2 (by decide) w_2 (fun _ h9 => h9) rfl dX3_has_6 ?_
    refine lv_icmp_ge (tgt := 16) hx hb dX3_has_9 (by decide) (fun c_9 => ?_) (fun c_9 => ?_)
    ·
      refine lv_iconst (v := 0) hx hb dX3_has_16 (by decide) ?_
      exact W.zret (v := 0) hx hb hr rfl (fun t ht hW => ⟨_, rfl, rfl, ht⟩) (fun q h => nomatch h) dX3_has_17
    ·
      refine lv_iconst (v := 1) hx hb dX3_has_12 (by decide) ?_
      refine lv_goto (tgt := 17) hx hb dX3_has_13 (by decide) ?_
      exact absurd (Int32.not_lt.mp c_1) c_9

set_option maxHeartbeats 4000000 in
set_option maxRecDepth 100000 in
/-- nobody is there -/
theorem k_X1_has (l : Launch) (D : va_G) (cB cI cJ cZ : ClassId) (h0 p0 p1 p2 p3 p4 p5 : Nat) (g : Int32) : Met l yX1_has wsX1_has ({ frames := 0, cells := 0, slots := 0, locals := 0 } : Room) (cRd D (aTy cB cI cJ cZ) [(h0, .inr (1, [.ref p0, .ref p1, .ref p2, .ref p3, .ref p4, .ref p5, .int 0]))] [.ref h0, .int g]) (vp_Si (fun r : Int32 => r = 0)) 0 0 (fun _ => False) := by
  refine Met.ofW (cc := cX1_has) (maxL := 2) (ret := (some .boolean)) (by decide) rfl ?_
  intro p e s m args below meth c s₁ B hml hv
  obtain ⟨rfl, hP, hK⟩ := hv
  have hx := B.exec
  have hb := B.bytes
  have hr := B.returns
  have hts := atoms_spec (ws := wsX1_has) B.pre
  have hown : s.vm.findClass RX1 = some m.cls := findClass_of_methodNamed B.named
  have hlocks := B.notSynchronized
  have hP : va_P D vwCl [(h0, .inr (1, [.ref p0, .ref p1, .ref p2, .ref p3, .ref p4, .ref p5, .int 0]))] s.heap := hP
  have w_1 : ∀ w ∈ wsX10, w ∈ wsX1_has := by decide +kernel
  have w_2 := hts (Cond.fieldLink RX1 30 "BlueCoats$Children" "number" "I") (by decide +kernel)
  have hl := lv_entry ([.ref h0, .int g]) (n := 2) (Nat.le_of_ble_eq_true rfl)
  rw [lg_entry_eq]
  generalize (lg_sl ([.ref h0, .int g]) ++ List.replicate (2 - (lg_sl ([.ref h0, .int g])).length) Slot.unset).toArray = ls at hl ⊢
  have hl : lv_has ls 2 [(0, .ref h0), (1, .int g)] := hl
  refine lv_iload_n hx hb dX1_has_0 rfl (lv_at hl 1 rfl) ?_
  refine lv_if_lt (tgt := 16) hx hb dX1_has_1 (by decide) (fun c_1 => ?_) (fun c_1 => ?_)
  ·
    refine lv_iconst (v := 0) hx hb dX1_has_16 (by decide) ?_
    exact W.zret (v := 0) hx hb hr rfl (fun t ht hW => ⟨_, rfl, rfl, ht⟩) (fun q h => nomatch h) dX1_has_17
  ·
    refine lv_iload_n hx hb dX1_has_4 rfl (lv_at hl 1 rfl) ?_
    refine lv_aload_n hx hb dX1_has_5 rfl (lv_at hl 0 rfl) ?_
    refine va_get (D := D) (ci := 1) (v := .int 0) (C := RX1) (T := TX1) (N := 7) hx hb hts w_1 hown hK hP 0 rfl rfl 6 (by decide) w_2 (fun _ h9 => h9) rfl dX1_has_6 ?_
    refine lv_icmp_ge (tgt := 16) hx hb dX1_has_9 (by decide) (fun c_9 => ?_) (fun c_9 => ?_)
    ·
      refine lv_iconst (v := 0) hx hb dX1_has_16 (by decide) ?_
      exact W.zret (v := 0) hx hb hr rfl (fun t ht hW => ⟨_, rfl, rfl, ht⟩) (fun q h => nomatch h) dX1_has_17
    ·
      refine lv_iconst (v := 1) hx hb dX1_has_12 (by decide) ?_
      refine lv_goto (tgt := 17) hx hb dX1_has_13 (by decide) ?_
      exact absurd (Int32.not_lt.mp c_1) c_9

set_option maxHeartbeats 4000000 in
set_option maxRecDepth 100000 in
/-- nobody is there -/
theorem k_X6_has (l : Launch) (D : va_G) (cB cI cJ cZ : ClassId) (h0 p0 p1 p2 p3 : Nat) (g : Int32) : Met l yX6_has wsX6_has ({ frames := 0, cells := 0, slots := 0, locals := 0 } : Room) (cRd D (aTy cB cI cJ cZ) [(h0, .inr (6, [.ref p0, .ref p1, .ref p2, .ref p3, .int 0]))] [.ref h0, .int g]) (vp_Si (fun r : Int32 => r = 0)) 0 0 (fun _ => False) := by
  refine Met.ofW (cc := cX6_has) (maxL := 2) (ret := (some .boolean)) (by decide) rfl ?_
  intro p e s m args below meth c s₁ B hml hv
  obtain ⟨rfl, hP, hK⟩ := hv
  have hx := B.exec
  have hb := B.bytes
  have hr := B.returns
  have hts := atoms_spec (ws := wsX6_has) B.pre
  have hown : s.vm.findClass RX6 = some m.cls := findClass_of_methodNamed B.named
  have hlocks := B.notSynchronized
  have hP : va_P D vwCl [(h0, .inr (6, [.ref p0, .ref p1, .ref p2, .ref p3, .int 0]))] s.heap := hP
  have w_1 : ∀ w ∈ wsX60, w ∈ wsX6_has := by decide +kernel
  have w_2 := hts (Cond.fieldLink RX6 25 "BlueCoats$Wardrobe" "number" "I") (by decide +kernel)
  have hl := lv_entry ([.ref h0, .int g]) (n := 2) (Nat.le_of_ble_eq_true rfl)
  rw [lg_entry_eq]
  generalize (lg_sl ([.ref h0, .int g]) ++ List.replicate (2 - (lg_sl ([.ref h0, .int g])).length) Slot.unset).toArray = ls at hl ⊢
  have hl : lv_has ls 2 [(0, .ref h0), (1, .int g)] := hl
  refine lv_iload_n hx hb dX6_has_0 rfl (lv_at hl 1 rfl) ?_
  refine lv_if_lt (tgt := 16) hx hb dX6_has_1 (by decide) (fun c_1 => ?_) (fun c_1 => ?_)
  ·
    refine lv_iconst (v := 0) hx hb dX6_has_16 (by decide) ?_
    exact W.zret (v := 0) hx hb hr rfl (fun t ht hW => ⟨_, rfl, rfl, ht⟩) (fun q h => nomatch h) dX6_has_17
  ·
    refine lv_iload_n hx hb dX6_has_4 rfl (lv_at hl 1 rfl) ?_
    refine lv_aload_n hx hb dX6_has_5 rfl (lv_at hl 0 rfl) ?_
    refine va_get (D := D) (ci := 6) (v := .int 0) (C := RX6) (T := TX6) (N := 5) hx hb hts w_1 hown hK hP 0 rfl rfl 4 (by decide) w_2 (fun _ h9 => h9) rfl dX6_has_6 ?_
    refine lv_icmp_ge (tgt := 16) hx hb dX6_has_9 (by decide) (fun c_9 => ?_) (fun c_9 => ?_)
    ·
      refine lv_iconst (v := 0) hx hb dX6_has_16 (by decide) ?_
      exact W.zret (v := 0) hx hb hr rfl (fun t ht hW => ⟨_, rfl, rfl, ht⟩) (fun q h => nomatch h) dX6_has_17
    ·
      refine lv_iconst (v := 1) hx hb dX6_has_12 (by decide) ?_
      refine lv_goto (tgt := 17) hx hb dX6_has_13 (by decide) ?_
      exact absurd (Int32.not_lt.mp c_1) c_9

set_option maxHeartbeats 4000000 in
set_option maxRecDepth 100000 in
/-- nobody is in -/
theorem k_X1_in (l : Launch) (D : va_G) (cB cI cJ cZ : ClassId) (h0 p0 p1 p2 p3 p4 p5 : Nat) : Met l yX1_in wsX1_in ({ frames := 0, cells := 0, slots := 0, locals := 0 } : Room) (cRd D (aTy cB cI cJ cZ) [(h0, .inr (1, [.ref p0, .ref p1, .ref p2, .ref p3, .ref p4, .ref p5, .int 0]))] [.ref h0]) (vp_Si (fun r : Int32 => r = 0)) 0 0 (fun _ => False) := by
  refine Met.ofW (cc := cX1_in) (maxL := 3) (ret := (some .int)) (by decide) rfl ?_
  intro p e s m args below meth c s₁ B hml hv
  obtain ⟨rfl, hP, hK⟩ := hv
  have hx := B.exec
  have hb := B.bytes
  have hr := B.returns
  have hts := atoms_spec (ws := wsX1_in) B.pre
  have hown : s.vm.findClass RX1 = some m.cls := findClass_of_methodNamed B.named
  have hlocks := B.notSynchronized
  have hP : va_P D vwCl [(h0, .inr (1, [.ref p0, .ref p1, .ref p2, .ref p3, .ref p4, .ref p5, .int 0]))] s.heap := hP
  have w_1 : ∀ w ∈ wsX10, w ∈ wsX1_in := by decide +kernel
  have w_2 := hts (Cond.fieldLink RX1 30 "BlueCoats$Children" "number" "I") (by decide +kernel)
  have hl := lv_entry ([.ref h0]) (n := 3) (Nat.le_of_ble_eq_true rfl)
  rw [lg_entry_eq]
  generalize (lg_sl ([.ref h0]) ++ List.replicate (3 - (lg_sl ([.ref h0])).length) Slot.unset).toArray = ls at hl ⊢
  have hl : lv_has ls 3 [(0, .ref h0)] := hl
  refine lv_iconst (v := 0) hx hb dX1_in_0 (by decide) ?_
  refine lv_istore_n (lv' := [(1, .int 0), (0, .ref h0)]) hx hb dX1_in_1 rfl hl (by decide) rfl (fun ls hl => ?_)
  refine lv_iconst (v := 0) hx hb dX1_in_2 (by decide) ?_
  refine lv_istore_n (lv' := [(2, .int 0), (1, .int 0), (0, .ref h0)]) hx hb dX1_in_3 rfl hl (by decide) rfl (fun ls hl => ?_)
  refine lv_iload_n hx hb dX1_in_4 rfl (lv_at hl 0 rfl) ?_
  refine lv_aload_n hx hb dX1_in_5 rfl (lv_at hl 2 rfl) ?_
  refine va_get (D := D) (ci := 1) (v := .int 0) (C := RX1) (T := TX1) (N := 7) hx hb hts w_1 hown hK hP 0 rfl rfl 6 (by decide) w_2 (fun _ h9 => h9) rfl dX1_in_6 ?_
  refine lv_icmp_ge (tgt := 31) hx hb dX1_in_9 (by decide) (fun _ => ?_) (fun h => absurd (by decide) h)
  refine lv_iload_n hx hb dX1_in_31 rfl (lv_at hl 1 rfl) ?_
  exact W.iret (v := 0) hx hb hr (fun t ht hW => ⟨_, rfl, rfl, ht⟩) (fun q h => nomatch h) dX1_in_32

set_option maxHeartbeats 4000000 in
set_option maxRecDepth 100000 in
/-- need is next -/
theorem k_X5_way (l : Launch) (D : va_G) (cB cI cJ cZ : ClassId) (h0 h1 : Nat) : Met l yX5_wayNext wsX5_wayNext ({ frames := 0, cells := 0, slots := 0, locals := 0 } : Room) (cRd D (aTy cB cI cJ cZ) [(h0, .inr (5, [.ref h1, .int 1, .int 0, .int 100, .int 7, .int 14, .int 3, .int 1, .int 8])), (h1, .inl (cI, 8, .inl cyc0))] [.ref h0]) (vp_Si (fun r : Int32 => r = 2)) 0 0 (fun _ => False) := by
  refine Met.ofW (cc := cX5_wayNext) (maxL := 1) (ret := (some .int)) (by decide) rfl ?_
  intro p e s m args below meth c s₁ B hml hv
  obtain ⟨rfl, hP, hK⟩ := hv
  have hx := B.exec
  have hb := B.bytes
  have hr := B.returns
  have hts := atoms_spec (ws := wsX5_wayNext) B.pre
  have hown : s.vm.findClass RX5 = some m.cls := findClass_of_methodNamed B.named
  have hlocks := B.notSynchronized
  have hP : va_P D vwCl [(h0, .inr (5, [.ref h1, .int 1, .int 0, .int 100, .int 7, .int 14, .int 3, .int 1, .int 8])), (h1, .inl (cI, 8, .inl cyc0))] s.heap := hP
  have w_1 : ∀ w ∈ wsX50, w ∈ wsX5_wayNext := by decide +kernel
  have w_2 := hts (Cond.fieldLink RX5 22 "BlueCoats$Statutes" "next" "I") (by decide +kernel)
  have w_3 := hts (Cond.fieldLink RX5 11 "BlueCoats$Statutes" "cycle" "[I") (by decide +kernel)
  have hl := lv_entry ([.ref h0]) (n := 1) (Nat.le_of_ble_eq_true rfl)
  rw [lg_entry_eq]
  generalize (lg_sl ([.ref h0]) ++ List.replicate (1 - (lg_sl ([.ref h0])).length) Slot.unset).toArray = ls at hl ⊢
  have hl : lv_has ls 1 [(0, .ref h0)] := hl
  refine lv_aload_n hx hb dX5_wayNext_0 rfl (lv_at hl 0 rfl) ?_
  refine va_get (D := D) (ci := 5) (v := .int 0) (C := RX5) (T := TX5) (N := 9) hx hb hts w_1 hown hK hP 0 rfl rfl 2 (by decide) w_2 (fun _ h9 => h9) rfl dX5_wayNext_1 ?_
  refine lv_if_lt (tgt := 28) hx hb dX5_wayNext_4 (by decide) (fun h => absurd h (by decide)) (fun _ => ?_)
  refine lv_aload_n hx hb dX5_wayNext_7 rfl (lv_at hl 0 rfl) ?_
  refine va_get (D := D) (ci := 5) (v := .int 0) (C := RX5) (T := TX5) (N := 9) hx hb hts w_1 hown hK hP 0 rfl rfl 2 (by decide) w_2 (fun _ h9 => h9) rfl dX5_wayNext_8 ?_
  refine lv_bipush (v := 8) hx hb dX5_wayNext_11 (by decide) ?_
  refine lv_icmp_ge (tgt := 28) hx hb dX5_wayNext_13 (by decide) (fun h => absurd h (by decide)) (fun _ => ?_)
  refine lv_aload_n hx hb dX5_wayNext_16 rfl (lv_at hl 0 rfl) ?_
  refine va_get (D := D) (ci := 5) (v := .ref h1) (C := RX5) (T := TX5) (N := 9) hx hb hts w_1 hown hK hP 0 rfl rfl 0 (by decide) w_3 (fun _ h9 => h9) rfl dX5_wayNext_17 ?_
  refine lv_aload_n hx hb dX5_wayNext_20 rfl (lv_at hl 0 rfl) ?_
  refine va_get (D := D) (ci := 5) (v := .int 0) (C := RX5) (T := TX5) (N := 9) hx hb hts w_1 hown hK hP 0 rfl rfl 2 (by decide) w_2 (fun _ h9 => h9) rfl dX5_wayNext_21 ?_
  refine sv_iald (v := 2) hx hb hK hP 1 1 rfl rfl (vp_in_iff.mpr (by decide)) rfl dX5_wayNext_24 ?_
  refine lv_goto (tgt := 29) hx hb dX5_wayNext_25 (by decide) ?_
  exact W.iret (v := 2) hx hb hr (fun t ht hW => ⟨_, rfl, rfl, ht⟩) (fun q h => nomatch h) dX5_wayNext_29

set_option maxHeartbeats 4000000 in
set_option maxRecDepth 100000 in
/-- a child that can be -/
theorem k_X1_canBe (l : Launch) (D : va_G) (cB cI cJ cZ : ClassId) (a n z g : Int32) : Met l yX1_canBe wsX1_canBe ({ frames := 0, cells := 0, slots := 0, locals := 0 } : Room) (cRd D (aTy cB cI cJ cZ) [] [.int a, .int n, .int z, .int g]) (vp_Si (fun r : Int32 => r = if okC a n z g then 1 else 0)) 0 0 (fun _ => False) := by
  refine Met.ofW (cc := cX1_canBe) (maxL := 4) (ret := (some .boolean)) (by decide) rfl ?_
  intro p e s m args below meth c s₁ B hml hv
  obtain ⟨rfl, hP, hK⟩ := hv
  have hx := B.exec
  have hb := B.bytes
  have hr := B.returns
  have hts := atoms_spec (ws := wsX1_canBe) B.pre
  have hown : s.vm.findClass RX1 = some m.cls := findClass_of_methodNamed B.named
  have hlocks := B.notSynchronized
  have hP : va_P D vwCl [] s.heap := hP
  have hl := lv_entry ([.int a, .int n, .int z, .int g]) (n := 4) (Nat.le_of_ble_eq_true rfl)
  rw [lg_entry_eq]
  generalize (lg_sl ([.int a, .int n, .int z, .int g]) ++ List.replicate (4 - (lg_sl ([.int a, .int n, .int z, .int g])).length) Slot.unset).toArray = ls at hl ⊢
  have hl : lv_has ls 4 [(0, .int a), (1, .int n), (2, .int z), (3, .int g)] := hl
  refine lv_iload_n hx hb dX1_canBe_0 rfl (lv_at hl 0 rfl) ?_
  refine lv_if_lt (tgt := 45) hx hb dX1_canBe_1 (by decide) (fun c_1 => ?_) (fun c_1 => ?_)
  ·
    refine lv_iconst (v := 0) hx hb dX1_canBe_45 (by decide) ?_
    exact W.zret (v := 0) hx hb hr rfl (fun t ht hW => ⟨_, rfl, (if_neg (fun h => h.1 c_1)).symm, ht⟩) (fun q h => nomatch h) dX1_canBe_46
  ·
    refine lv_iload_n hx hb dX1_canBe_4 rfl (lv_at hl 0 rfl) ?_
    refine lv_bipush (v := 20) hx hb dX1_canBe_5 (by decide) ?_
    refine lv_icmp_gt (tgt := 45) hx hb dX1_canBe_7 (by decide) (fun c_7 => ?_) (fun c_7 => ?_)
    ·
      refine lv_iconst (v := 0) hx hb dX1_canBe_45 (by decide) ?_
      exact W.zret (v := 0) hx hb hr rfl (fun t ht hW => ⟨_, rfl, (if_neg (fun h => h.2.1 c_7)).symm, ht⟩) (fun q h => nomatch h) dX1_canBe_46
    ·
      refine lv_iload_n hx hb dX1_canBe_10 rfl (lv_at hl 1 rfl) ?_
      refine lv_if_lt (tgt := 45) hx hb dX1_canBe_11 (by decide) (fun c_11 => ?_) (fun c_11 => ?_)
      ·
        refine lv_iconst (v := 0) hx hb dX1_canBe_45 (by decide) ?_
        exact W.zret (v := 0) hx hb hr rfl (fun t ht hW => ⟨_, rfl, (if_neg (fun h => h.2.2.1 c_11)).symm, ht⟩) (fun q h => nomatch h) dX1_canBe_46
      ·
        refine lv_iload_n hx hb dX1_canBe_14 rfl (lv_at hl 1 rfl) ?_
        refine lv_bipush (v := 99) hx hb dX1_canBe_15 (by decide) ?_
        refine lv_icmp_gt (tgt := 45) hx hb dX1_canBe_17 (by decide) (fun c_17 => ?_) (fun c_17 => ?_)
        ·
          refine lv_iconst (v := 0) hx hb dX1_canBe_45 (by decide) ?_
          exact W.zret (v := 0) hx hb hr rfl (fun t ht hW => ⟨_, rfl, (if_neg (fun h => h.2.2.2.1 c_17)).symm, ht⟩) (fun q h => nomatch h) dX1_canBe_46
        ·
          refine lv_iload_n hx hb dX1_canBe_20 rfl (lv_at hl 2 rfl) ?_
          refine lv_bipush (v := 10) hx hb dX1_canBe_21 (by decide) ?_
          refine lv_icmp_lt (tgt := 45) hx hb dX1_canBe_23 (by decide) (fun c_23 => ?_) (fun c_23 => ?_)
          ·
            refine lv_iconst (v := 0) hx hb dX1_canBe_45 (by decide) ?_
            exact W.zret (v := 0) hx hb hr rfl (fun t ht hW => ⟨_, rfl, (if_neg (fun h => h.2.2.2.2.1 c_23)).symm, ht⟩) (fun q h => nomatch h) dX1_canBe_46
          ·
            refine lv_iload_n hx hb dX1_canBe_26 rfl (lv_at hl 2 rfl) ?_
            refine lv_bipush (v := 60) hx hb dX1_canBe_27 (by decide) ?_
            refine lv_icmp_gt (tgt := 45) hx hb dX1_canBe_29 (by decide) (fun c_29 => ?_) (fun c_29 => ?_)
            ·
              refine lv_iconst (v := 0) hx hb dX1_canBe_45 (by decide) ?_
              exact W.zret (v := 0) hx hb hr rfl (fun t ht hW => ⟨_, rfl, (if_neg (fun h => h.2.2.2.2.2.1 c_29)).symm, ht⟩) (fun q h => nomatch h) dX1_canBe_46
            ·
              refine lv_iload_n hx hb dX1_canBe_32 rfl (lv_at hl 3 rfl) ?_
              refine lv_if_lt (tgt := 45) hx hb dX1_canBe_33 (by decide) (fun c_33 => ?_) (fun c_33 => ?_)
              ·
                refine lv_iconst (v := 0) hx hb dX1_canBe_45 (by decide) ?_
                exact W.zret (v := 0) hx hb hr rfl (fun t ht hW => ⟨_, rfl, (if_neg (fun h => h.2.2.2.2.2.2.1 c_33)).symm, ht⟩) (fun q h => nomatch h) dX1_canBe_46
              ·
                refine lv_iload_n hx hb dX1_canBe_36 rfl (lv_at hl 3 rfl) ?_
                refine lv_iconst (v := 4) hx hb dX1_canBe_37 (by decide) ?_
                refine lv_icmp_gt (tgt := 45) hx hb dX1_canBe_38 (by decide) (fun c_38 => ?_) (fun c_38 => ?_)
                ·
                  refine lv_iconst (v := 0) hx hb dX1_canBe_45 (by decide) ?_
                  exact W.zret (v := 0) hx hb hr rfl (fun t ht hW => ⟨_, rfl, (if_neg (fun h => h.2.2.2.2.2.2.2 c_38)).symm, ht⟩) (fun q h => nomatch h) dX1_canBe_46
                ·
                  refine lv_iconst (v := 1) hx hb dX1_canBe_41 (by decide) ?_
                  refine lv_goto (tgt := 46) hx hb dX1_canBe_42 (by decide) ?_
                  exact W.zret (v := 1) hx hb hr rfl (fun t ht hW => ⟨_, rfl, (if_pos ⟨c_1, c_7, c_11, c_17, c_23, c_29, c_33, c_38⟩).symm, ht⟩) (fun q h => nomatch h) dX1_canBe_46

set_option maxHeartbeats 4000000 in
set_option maxRecDepth 100000 in
/-- the first giver -/
theorem k_X3_add (l : Launch) (D : va_G) (cB cI cJ cZ : ClassId) (sz : Nat) (h0 p0 p1 : Nat) : Met l yX3_add wsX3_add ({ frames := 0, cells := 0, slots := 0, locals := 0 } : Room) (cPre D (aTy cB cI cJ cZ) [(h0, .inr (3, [.ref p0, .ref p1, .int 0, .int 0])), (p0, .inl (cI, 8, .inl (fun _ => 0))), (p1, .inl (cI, 8, .inl (fun _ => 0)))] sz [.ref h0]) (va_Qi (fun (r : Int32) (u : Unit) => r = 0) (cB_ D (aTy cB cI cJ cZ) (va_A [(h0, .inr (3, [.ref p0, .ref p1, .int 0, .int 0])), (p0, .inl (cI, 8, .inl (fun _ => 0))), (p1, .inl (cI, 8, .inl (fun _ => 0)))] sz) (fun _ => [])) (va_A [(h0, .inr (3, [.ref p0, .ref p1, .int 0, .int 0])), (p0, .inl (cI, 8, .inl (fun _ => 0))), (p1, .inl (cI, 8, .inl (fun _ => 0)))] sz)) 0 0 (va_A [(h0, .inr (3, [.ref p0, .ref p1, .int 0, .int 0])), (p0, .inl (cI, 8, .inl (fun _ => 0))), (p1, .inl (cI, 8, .inl (fun _ => 0)))] sz) := by
  refine Met.ofW (cc := cX3_add) (maxL := 1) (ret := (some .int)) (by decide) rfl ?_
  intro p e s m args below meth c s₁ B hml hv
  obtain ⟨rfl, hsz, hP, hK, hD0⟩ := hv
  have hx := B.exec
  have hb := B.bytes
  have hr := B.returns
  have hts := atoms_spec (ws := wsX3_add) B.pre
  have hown : s.vm.findClass RX3 = some m.cls := findClass_of_methodNamed B.named
  have hlocks := B.notSynchronized
  subst hsz
  have hD := hD0.self (sz := s.heap.size)
  generalize hAe : va_A [(h0, .inr (3, [.ref p0, .ref p1, .int 0, .int 0])), (p0, .inl (cI, 8, .inl (fun _ => 0))), (p1, .inl (cI, 8, .inl (fun _ => 0)))] s.heap.size = A at hD ⊢
  have hA : ∀ q : Nat, s.heap.size ≤ q → A q := fun q h => by rw [← hAe]; exact Or.inr h
  have hS : va_S A s.heap s.heap [] := va_S.rf
  have hP : va_P D vwCl [(h0, .inr (3, [.ref p0, .ref p1, .int 0, .int 0])), (p0, .inl (cI, 8, .inl (fun _ => 0))), (p1, .inl (cI, 8, .inl (fun _ => 0)))] s.heap := hP
  have w_1 : ∀ w ∈ wsX30, w ∈ wsX3_add := by decide +kernel
  have w_2 := hts (Cond.fieldLink RX3 18 "BlueCoats$Givers" "number" "I") (by decide +kernel)
  have w_3 := hts (Cond.fieldLink RX3 11 "BlueCoats$Givers" "gave" "[I") (by decide +kernel)
  have w_4 := hts (Cond.fieldLink RX3 15 "BlueCoats$Givers" "supported" "[I") (by decide +kernel)
  have hl := lv_entry ([.ref h0]) (n := 1) (Nat.le_of_ble_eq_true rfl)
  rw [lg_entry_eq]
  generalize (lg_sl ([.ref h0]) ++ List.replicate (1 - (lg_sl ([.ref h0])).length) Slot.unset).toArray = ls at hl ⊢
  have hl : lv_has ls 1 [(0, .ref h0)] := hl
  refine lv_aload_n hx hb dX3_add_0 rfl (lv_at hl 0 rfl) ?_
  refine va_get (D := D) (ci := 3) (v := .int 0) (C := RX3) (T := TX3) (N := 4) hx hb hts w_1 hown hK hP 0 rfl rfl 2 (by decide) w_2 (fun _ h9 => h9) rfl dX3_add_1 ?_
  refine lv_bipush (v := 8) hx hb dX3_add_4 (by decide) ?_
  refine lv_icmp_lt (tgt := 11) hx hb dX3_add_6 (by decide) (fun _ => ?_) (fun h => absurd (by decide) h)
  refine lv_aload_n hx hb dX3_add_11 rfl (lv_at hl 0 rfl) ?_
  refine va_get (D := D) (ci := 3) (v := .ref p0) (C := RX3) (T := TX3) (N := 4) hx hb hts w_1 hown hK hP 0 rfl rfl 0 (by decide) w_3 (fun _ h9 => h9) rfl dX3_add_12 ?_
  refine lv_aload_n hx hb dX3_add_15 rfl (lv_at hl 0 rfl) ?_
  refine va_get (D := D) (ci := 3) (v := .int 0) (C := RX3) (T := TX3) (N := 4) hx hb hts w_1 hown hK hP 0 rfl rfl 2 (by decide) w_2 (fun _ h9 => h9) rfl dX3_add_16 ?_
  refine lv_iconst (v := 0) hx hb dX3_add_19 (by decide) ?_
  refine sv_iast hx hb hK hP hD hS 1 1 rfl rfl (vp_in_iff.mpr (by decide)) dX3_add_20 (fun g_1 H locs eg_1 hP hD hS => ?_)
  have hP : va_P D vwCl [(h0, .inr (3, [.ref p0, .ref p1, .int 0, .int 0])), (p0, .inl (cI, 8, .inl g_1)), (p1, .inl (cI, 8, .inl (fun _ => 0)))] H := hP
  have hD : va_D A [(h0, .inr (3, [.ref p0, .ref p1, .int 0, .int 0])), (p0, .inl (cI, 8, .inl g_1)), (p1, .inl (cI, 8, .inl (fun _ => 0)))] := hD
  refine lv_aload_n hx hb dX3_add_21 rfl (lv_at hl 0 rfl) ?_
  refine va_get (D := D) (ci := 3) (v := .ref p1) (C := RX3) (T := TX3) (N := 4) hx hb hts w_1 hown hK hP 0 rfl rfl 1 (by decide) w_4 (fun _ h9 => h9) rfl dX3_add_22 ?_
  refine lv_aload_n hx hb dX3_add_25 rfl (lv_at hl 0 rfl) ?_
  refine va_get (D := D) (ci := 3) (v := .int 0) (C := RX3) (T := TX3) (N := 4) hx hb hts w_1 hown hK hP 0 rfl rfl 2 (by decide) w_2 (fun _ h9 => h9) rfl dX3_add_26 ?_
  refine lv_iconst (v := (-1)) hx hb dX3_add_29 (by decide) ?_
  refine sv_iast hx hb hK hP hD hS 2 1 rfl rfl (vp_in_iff.mpr (by decide)) dX3_add_30 (fun g_2 H locs eg_2 hP hD hS => ?_)
  have hP : va_P D vwCl [(h0, .inr (3, [.ref p0, .ref p1, .int 0, .int 0])), (p0, .inl (cI, 8, .inl g_1)), (p1, .inl (cI, 8, .inl g_2))] H := hP
  have hD : va_D A [(h0, .inr (3, [.ref p0, .ref p1, .int 0, .int 0])), (p0, .inl (cI, 8, .inl g_1)), (p1, .inl (cI, 8, .inl g_2))] := hD
  refine lv_aload_n hx hb dX3_add_31 rfl (lv_at hl 0 rfl) ?_
  refine lv_dup hx hb dX3_add_32 rfl ?_
  refine va_get (D := D) (ci := 3) (v := .int 0) (C := RX3) (T := TX3) (N := 4) hx hb hts w_1 hown hK hP 0 rfl rfl 2 (by decide) w_2 (fun _ h9 => h9) rfl dX3_add_33 ?_
  refine lv_iconst (v := 1) hx hb dX3_add_36 (by decide) ?_
  refine sv_iadd (v := 1) hx hb dX3_add_37 (by decide) ?_
  refine va_put (D := D) (ci := 3) (v := .int 1) (ty := .int) (C := RX3) (T := TX3) (N := 4) hx hb hts w_1 tyX3 tyX3_ok nmX3 hown hK hP hD hS 0 rfl rfl 2 (by decide) w_2 (fun _ h9 => h9) rfl (by decide +kernel) rfl rfl (Nat.le_of_ble_eq_true rfl) dX3_add_38 (fun H locs hP hD hS => ?_)
  have hP : va_P D vwCl [(h0, .inr (3, [.ref p0, .ref p1, .int 1, .int 0])), (p0, .inl (cI, 8, .inl g_1)), (p1, .inl (cI, 8, .inl g_2))] H := hP
  have hD : va_D A [(h0, .inr (3, [.ref p0, .ref p1, .int 1, .int 0])), (p0, .inl (cI, 8, .inl g_1)), (p1, .inl (cI, 8, .inl g_2))] := hD
  refine lv_aload_n hx hb dX3_add_41 rfl (lv_at hl 0 rfl) ?_
  refine va_get (D := D) (ci := 3) (v := .int 1) (C := RX3) (T := TX3) (N := 4) hx hb hts w_1 hown hK hP 0 rfl rfl 2 (by decide) w_2 (fun _ h9 => h9) rfl dX3_add_42 ?_
  refine lv_iconst (v := 1) hx hb dX3_add_45 (by decide) ?_
  refine sv_isub (v := 0) hx hb dX3_add_46 (by decide) ?_
  have hP9 := hP.sub (ws' := []) [] rfl
  have hD9 := hD.sub (ws' := []) [] (by decide) rfl
  exact W.iret (v := 0) hx hb hr (fun t ht hW => ⟨⟨_, (), rfl, rfl, by rw [ht]; exact hP9, va_K.moved hW.alike hK, hD9⟩, hS.F ht⟩) hS.2.2 dX3_add_47

set_option maxHeartbeats 4000000 in
set_option maxRecDepth 100000 in
/-- the first child -/
theorem k_X1_add (l : Launch) (D : va_G) (cB cI cJ cZ : ClassId) (sz : Nat) (h0 p0 p1 p2 p3 p4 p5 : Nat) (a n z g : Int32) : Met l yX1_add wsX1_add ({ frames := 1, cells := 0, slots := 0, locals := 23 } : Room) (cPre D (aTy cB cI cJ cZ) [(h0, .inr (1, [.ref p0, .ref p1, .ref p2, .ref p3, .ref p4, .ref p5, .int 0])), (p0, .inl (cI, 16, .inl (fun _ => 0))), (p1, .inl (cI, 16, .inl (fun _ => 0))), (p2, .inl (cI, 16, .inl (fun _ => 0))), (p3, .inl (cI, 16, .inl (fun _ => 0))), (p4, .inl (cI, 16, .inl (fun _ => 0))), (p5, .inl (cI, 16, .inl (fun _ => 0)))] sz [.ref h0, .int a, .int n, .int z, .int g]) (va_Qi (fun (r : Int32) (u : Unit) => r = if okC a n z g then 0 else -1) (cB_ D (aTy cB cI cJ cZ) (va_A [(h0, .inr (1, [.ref p0, .ref p1, .ref p2, .ref p3, .ref p4, .ref p5, .int 0])), (p0, .inl (cI, 16, .inl (fun _ => 0))), (p1, .inl (cI, 16, .inl (fun _ => 0))), (p2, .inl (cI, 16, .inl (fun _ => 0))), (p3, .inl (cI, 16, .inl (fun _ => 0))), (p4, .inl (cI, 16, .inl (fun _ => 0))), (p5, .inl (cI, 16, .inl (fun _ => 0)))] sz) (fun _ => [])) (va_A [(h0, .inr (1, [.ref p0, .ref p1, .ref p2, .ref p3, .ref p4, .ref p5, .int 0])), (p0, .inl (cI, 16, .inl (fun _ => 0))), (p1, .inl (cI, 16, .inl (fun _ => 0))), (p2, .inl (cI, 16, .inl (fun _ => 0))), (p3, .inl (cI, 16, .inl (fun _ => 0))), (p4, .inl (cI, 16, .inl (fun _ => 0))), (p5, .inl (cI, 16, .inl (fun _ => 0)))] sz)) 0 0 (va_A [(h0, .inr (1, [.ref p0, .ref p1, .ref p2, .ref p3, .ref p4, .ref p5, .int 0])), (p0, .inl (cI, 16, .inl (fun _ => 0))), (p1, .inl (cI, 16, .inl (fun _ => 0))), (p2, .inl (cI, 16, .inl (fun _ => 0))), (p3, .inl (cI, 16, .inl (fun _ => 0))), (p4, .inl (cI, 16, .inl (fun _ => 0))), (p5, .inl (cI, 16, .inl (fun _ => 0)))] sz) := by
  refine Met.ofW (cc := cX1_add) (maxL := 5) (ret := (some .int)) (by decide) rfl ?_
  intro p e s m args below meth c s₁ B hml hv
  obtain ⟨rfl, hsz, hP, hK, hD0⟩ := hv
  have hx := B.exec
  have hb := B.bytes
  have hr := B.returns
  have hts := atoms_spec (ws := wsX1_add) B.pre
  have hown : s.vm.findClass RX1 = some m.cls := findClass_of_methodNamed B.named
  have hlocks := B.notSynchronized
  subst hsz
  have hD := hD0.self (sz := s.heap.size)
  generalize hAe : va_A [(h0, .inr (1, [.ref p0, .ref p1, .ref p2, .ref p3, .ref p4, .ref p5, .int 0])), (p0, .inl (cI, 16, .inl (fun _ => 0))), (p1, .inl (cI, 16, .inl (fun _ => 0))), (p2, .inl (cI, 16, .inl (fun _ => 0))), (p3, .inl (cI, 16, .inl (fun _ => 0))), (p4, .inl (cI, 16, .inl (fun _ => 0))), (p5, .inl (cI, 16, .inl (fun _ => 0)))] s.heap.size = A at hD ⊢
  have hA : ∀ q : Nat, s.heap.size ≤ q → A q := fun q h => by rw [← hAe]; exact Or.inr h
  have hS : va_S A s.heap s.heap [] := va_S.rf
  have hP : va_P D vwCl [(h0, .inr (1, [.ref p0, .ref p1, .ref p2, .ref p3, .ref p4, .ref p5, .int 0])), (p0, .inl (cI, 16, .inl (fun _ => 0))), (p1, .inl (cI, 16, .inl (fun _ => 0))), (p2, .inl (cI, 16, .inl (fun _ => 0))), (p3, .inl (cI, 16, .inl (fun _ => 0))), (p4, .inl (cI, 16, .inl (fun _ => 0))), (p5, .inl (cI, 16, .inl (fun _ => 0)))] s.heap := hP
  have w_1 : ∀ w ∈ wsX10, w ∈ wsX1_add := by decide +kernel
  have w_2 := hts (Cond.fieldLink RX1 30 "BlueCoats$Children" "number" "I") (by decide +kernel)
  have w_3 := hts (Cond.fieldLink RX1 11 "BlueCoats$Children" "age" "[I") (by decide +kernel)
  have w_4 := hts (Cond.fieldLink RX1 15 "BlueCoats$Children" "need" "[I") (by decide +kernel)
  have w_5 := hts (Cond.fieldLink RX1 18 "BlueCoats$Children" "size" "[I") (by decide +kernel)
  have w_6 := hts (Cond.fieldLink RX1 21 "BlueCoats$Children" "growth" "[I") (by decide +kernel)
  have w_7 := hts (Cond.fieldLink RX1 24 "BlueCoats$Children" "state" "[I") (by decide +kernel)
  have w_8 := hts (Cond.fieldLink RX1 27 "BlueCoats$Children" "coat" "[I") (by decide +kernel)
  have hl := lv_entry ([.ref h0, .int a, .int n, .int z, .int g]) (n := 5) (Nat.le_of_ble_eq_true rfl)
  rw [lg_entry_eq]
  generalize (lg_sl ([.ref h0, .int a, .int n, .int z, .int g]) ++ List.replicate (5 - (lg_sl ([.ref h0, .int a, .int n, .int z, .int g])).length) Slot.unset).toArray = ls at hl ⊢
  have hl : lv_has ls 5 [(0, .ref h0), (1, .int a), (2, .int n), (3, .int z), (4, .int g)] := hl
  refine lv_aload_n hx hb dX1_add_0 rfl (lv_at hl 0 rfl) ?_
  refine va_get (D := D) (ci := 1) (v := .int 0) (C := RX1) (T := TX1) (N := 7) hx hb hts w_1 hown hK hP 0 rfl rfl 6 (by decide) w_2 (fun _ h9 => h9) rfl dX1_add_1 ?_
  refine lv_bipush (v := 16) hx hb dX1_add_4 (by decide) ?_
  refine lv_icmp_ge (tgt := 20) hx hb dX1_add_6 (by decide) (fun h => absurd h (by decide)) (fun _ => ?_)
  refine lv_iload_n hx hb dX1_add_9 rfl (lv_at hl 1 rfl) ?_
  refine lv_iload_n hx hb dX1_add_10 rfl (lv_at hl 2 rfl) ?_
  refine lv_iload_n hx hb dX1_add_11 rfl (lv_at hl 3 rfl) ?_
  refine lv_iload hx hb dX1_add_12 (lv_at hl 4 rfl) ?_
  refine vp_callSi (va_Run.run (va_runS (As := [.int a, .int n, .int z, .int g]) (rest := []) ⟨hx, hb, hml, hown, hts⟩ (k_X1_canBe l D cB cI cJ cZ a n z g) (va_cwS 4 hts gX1_add_X1_canBe rfl rfl rfl (by decide +kernel) ⟨Nat.le_of_ble_eq_true rfl, Nat.le_of_ble_eq_true rfl⟩) (pre_SR (hP.sub (ws' := []) [] rfl) hK) rfl rfl hl.1 rfl (lv_room (Nat.le_of_ble_eq_true rfl)) dX1_add_14 ⟨Nat.le_of_ble_eq_true rfl, Nat.le_of_ble_eq_true rfl⟩)) (fun r_1 hw_r_1 => ?_)
  refine lv_if_ne (tgt := 22) hx hb dX1_add_17 (by decide) (fun c_17 => ?_) (fun c_17 => ?_)
  ·
    refine lv_aload_n hx hb dX1_add_22 rfl (lv_at hl 0 rfl) ?_
    refine va_get (D := D) (ci := 1) (v := .ref p0) (C := RX1) (T := TX1) (N := 7) hx hb hts w_1 hown hK hP 0 rfl rfl 0 (by decide) w_3 (fun _ h9 => h9) rfl dX1_add_23 ?_
    refine lv_aload_n hx hb dX1_add_26 rfl (lv_at hl 0 rfl) ?_
    refine va_get (D := D) (ci := 1) (v := .int 0) (C := RX1) (T := TX1) (N := 7) hx hb hts w_1 hown hK hP 0 rfl rfl 6 (by decide) w_2 (fun _ h9 => h9) rfl dX1_add_27 ?_
    refine lv_iload_n hx hb dX1_add_30 rfl (lv_at hl 1 rfl) ?_
    refine sv_iast hx hb hK hP hD hS 1 1 rfl rfl (vp_in_iff.mpr (by decide)) dX1_add_31 (fun g_2 H locs eg_2 hP hD hS => ?_)
    have hP : va_P D vwCl [(h0, .inr (1, [.ref p0, .ref p1, .ref p2, .ref p3, .ref p4, .ref p5, .int 0])), (p0, .inl (cI, 16, .inl g_2)), (p1, .inl (cI, 16, .inl (fun _ => 0))), (p2, .inl (cI, 16, .inl (fun _ => 0))), (p3, .inl (cI, 16, .inl (fun _ => 0))), (p4, .inl (cI, 16, .inl (fun _ => 0))), (p5, .inl (cI, 16, .inl (fun _ => 0)))] H := hP
    have hD : va_D A [(h0, .inr (1, [.ref p0, .ref p1, .ref p2, .ref p3, .ref p4, .ref p5, .int 0])), (p0, .inl (cI, 16, .inl g_2)), (p1, .inl (cI, 16, .inl (fun _ => 0))), (p2, .inl (cI, 16, .inl (fun _ => 0))), (p3, .inl (cI, 16, .inl (fun _ => 0))), (p4, .inl (cI, 16, .inl (fun _ => 0))), (p5, .inl (cI, 16, .inl (fun _ => 0)))] := hD
    refine lv_aload_n hx hb dX1_add_32 rfl (lv_at hl 0 rfl) ?_
    refine va_get (D := D) (ci := 1) (v := .ref p1) (C := RX1) (T := TX1) (N := 7) hx hb hts w_1 hown hK hP 0 rfl rfl 1 (by decide) w_4 (fun _ h9 => h9) rfl dX1_add_33 ?_
    refine lv_aload_n hx hb dX1_add_36 rfl (lv_at hl 0 rfl) ?_
    refine va_get (D := D) (ci := 1) (v := .int 0) (C := RX1) (T := TX1) (N := 7) hx hb hts w_1 hown hK hP 0 rfl rfl 6 (by decide) w_2 (fun _ h9 => h9) rfl dX1_add_37 ?_
    refine lv_iload_n hx hb dX1_add_40 rfl (lv_at hl 2 rfl) ?_
    refine sv_iast hx hb hK hP hD hS 2 1 rfl rfl (vp_in_iff.mpr (by decide)) dX1_add_41 (fun g_3 H locs eg_3 hP hD hS => ?_)
    have hP : va_P D vwCl [(h0, .inr (1, [.ref p0, .ref p1, .ref p2, .ref p3, .ref p4, .ref p5, .int 0])), (p0, .inl (cI, 16, .inl g_2)), (p1, .inl (cI, 16, .inl g_3)), (p2, .inl (cI, 16, .inl (fun _ => 0))), (p3, .inl (cI, 16, .inl (fun _ => 0))), (p4, .inl (cI, 16, .inl (fun _ => 0))), (p5, .inl (cI, 16, .inl (fun _ => 0)))] H := hP
    have hD : va_D A [(h0, .inr (1, [.ref p0, .ref p1, .ref p2, .ref p3, .ref p4, .ref p5, .int 0])), (p0, .inl (cI, 16, .inl g_2)), (p1, .inl (cI, 16, .inl g_3)), (p2, .inl (cI, 16, .inl (fun _ => 0))), (p3, .inl (cI, 16, .inl (fun _ => 0))), (p4, .inl (cI, 16, .inl (fun _ => 0))), (p5, .inl (cI, 16, .inl (fun _ => 0)))] := hD
    refine lv_aload_n hx hb dX1_add_42 rfl (lv_at hl 0 rfl) ?_
    refine va_get (D := D) (ci := 1) (v := .ref p2) (C := RX1) (T := TX1) (N := 7) hx hb hts w_1 hown hK hP 0 rfl rfl 2 (by decide) w_5 (fun _ h9 => h9) rfl dX1_add_43 ?_
    refine lv_aload_n hx hb dX1_add_46 rfl (lv_at hl 0 rfl) ?_
    refine va_get (D := D) (ci := 1) (v := .int 0) (C := RX1) (T := TX1) (N := 7) hx hb hts w_1 hown hK hP 0 rfl rfl 6 (by decide) w_2 (fun _ h9 => h9) rfl dX1_add_47 ?_
    refine lv_iload_n hx hb dX1_add_50 rfl (lv_at hl 3 rfl) ?_
    refine sv_iast hx hb hK hP hD hS 3 1 rfl rfl (vp_in_iff.mpr (by decide)) dX1_add_51 (fun g_4 H locs eg_4 hP hD hS => ?_)
    have hP : va_P D vwCl [(h0, .inr (1, [.ref p0, .ref p1, .ref p2, .ref p3, .ref p4, .ref p5, .int 0])), (p0, .inl (cI, 16, .inl g_2)), (p1, .inl (cI, 16, .inl g_3)), (p2, .inl (cI, 16, .inl g_4)), (p3, .inl (cI, 16, .inl (fun _ => 0))), (p4, .inl (cI, 16, .inl (fun _ => 0))), (p5, .inl (cI, 16, .inl (fun _ => 0)))] H := hP
    have hD : va_D A [(h0, .inr (1, [.ref p0, .ref p1, .ref p2, .ref p3, .ref p4, .ref p5, .int 0])), (p0, .inl (cI, 16, .inl g_2)), (p1, .inl (cI, 16, .inl g_3)), (p2, .inl (cI, 16, .inl g_4)), (p3, .inl (cI, 16, .inl (fun _ => 0))), (p4, .inl (cI, 16, .inl (fun _ => 0))), (p5, .inl (cI, 16, .inl (fun _ => 0)))] := hD
    refine lv_aload_n hx hb dX1_add_52 rfl (lv_at hl 0 rfl) ?_
    refine va_get (D := D) (ci := 1) (v := .ref p3) (C := RX1) (T := TX1) (N := 7) hx hb hts w_1 hown hK hP 0 rfl rfl 3 (by decide) w_6 (fun _ h9 => h9) rfl dX1_add_53 ?_
    refine lv_aload_n hx hb dX1_add_56 rfl (lv_at hl 0 rfl) ?_
    refine va_get (D := D) (ci := 1) (v := .int 0) (C := RX1) (T := TX1) (N := 7) hx hb hts w_1 hown hK hP 0 rfl rfl 6 (by decide) w_2 (fun _ h9 => h9) rfl dX1_add_57 ?_
    refine lv_iload hx hb dX1_add_60 (lv_at hl 4 rfl) ?_
    refine sv_iast hx hb hK hP hD hS 4 1 rfl rfl (vp_in_iff.mpr (by decide)) dX1_add_62 (fun g_5 H locs eg_5 hP hD hS => ?_)
    have hP : va_P D vwCl [(h0, .inr (1, [.ref p0, .ref p1, .ref p2, .ref p3, .ref p4, .ref p5, .int 0])), (p0, .inl (cI, 16, .inl g_2)), (p1, .inl (cI, 16, .inl g_3)), (p2, .inl (cI, 16, .inl g_4)), (p3, .inl (cI, 16, .inl g_5)), (p4, .inl (cI, 16, .inl (fun _ => 0))), (p5, .inl (cI, 16, .inl (fun _ => 0)))] H := hP
    have hD : va_D A [(h0, .inr (1, [.ref p0, .ref p1, .ref p2, .ref p3, .ref p4, .ref p5, .int 0])), (p0, .inl (cI, 16, .inl g_2)), (p1, .inl (cI, 16, .inl g_3)), (p2, .inl (cI, 16, .inl g_4)), (p3, .inl (cI, 16, .inl g_5)), (p4, .inl (cI, 16, .inl (fun _ => 0))), (p5, .inl (cI, 16, .inl (fun _ => 0)))] := hD
    refine lv_aload_n hx hb dX1_add_63 rfl (lv_at hl 0 rfl) ?_
    refine va_get (D := D) (ci := 1) (v := .ref p4) (C := RX1) (T := TX1) (N := 7) hx hb hts w_1 hown hK hP 0 rfl rfl 4 (by decide) w_7 (fun _ h9 => h9) rfl dX1_add_64 ?_
    refine lv_aload_n hx hb dX1_add_67 rfl (lv_at hl 0 rfl) ?_
    refine va_get (D := D) (ci := 1) (v := .int 0) (C := RX1) (T := TX1) (N := 7) hx hb hts w_1 hown hK hP 0 rfl rfl 6 (by decide) w_2 (fun _ h9 => h9) rfl dX1_add_68 ?_
    refine lv_iconst (v := 0) hx hb dX1_add_71 (by decide) ?_
    refine sv_iast hx hb hK hP hD hS 5 1 rfl rfl (vp_in_iff.mpr (by decide)) dX1_add_72 (fun g_6 H locs eg_6 hP hD hS => ?_)
    have hP : va_P D vwCl [(h0, .inr (1, [.ref p0, .ref p1, .ref p2, .ref p3, .ref p4, .ref p5, .int 0])), (p0, .inl (cI, 16, .inl g_2)), (p1, .inl (cI, 16, .inl g_3)), (p2, .inl (cI, 16, .inl g_4)), (p3, .inl (cI, 16, .inl g_5)), (p4, .inl (cI, 16, .inl g_6)), (p5, .inl (cI, 16, .inl (fun _ => 0)))] H := hP
    have hD : va_D A [(h0, .inr (1, [.ref p0, .ref p1, .ref p2, .ref p3, .ref p4, .ref p5, .int 0])), (p0, .inl (cI, 16, .inl g_2)), (p1, .inl (cI, 16, .inl g_3)), (p2, .inl (cI, 16, .inl g_4)), (p3, .inl (cI, 16, .inl g_5)), (p4, .inl (cI, 16, .inl g_6)), (p5, .inl (cI, 16, .inl (fun _ => 0)))] := hD
    refine lv_aload_n hx hb dX1_add_73 rfl (lv_at hl 0 rfl) ?_
    refine va_get (D := D) (ci := 1) (v := .ref p5) (C := RX1) (T := TX1) (N := 7) hx hb hts w_1 hown hK hP 0 rfl rfl 5 (by decide) w_8 (fun _ h9 => h9) rfl dX1_add_74 ?_
    refine lv_aload_n hx hb dX1_add_77 rfl (lv_at hl 0 rfl) ?_
    refine va_get (D := D) (ci := 1) (v := .int 0) (C := RX1) (T := TX1) (N := 7) hx hb hts w_1 hown hK hP 0 rfl rfl 6 (by decide) w_2 (fun _ h9 => h9) rfl dX1_add_78 ?_
    refine lv_iconst (v := (-1)) hx hb dX1_add_81 (by decide) ?_
    refine sv_iast hx hb hK hP hD hS 6 1 rfl rfl (vp_in_iff.mpr (by decide)) dX1_add_82 (fun g_7 H locs eg_7 hP hD hS => ?_)
    have hP : va_P D vwCl [(h0, .inr (1, [.ref p0, .ref p1, .ref p2, .ref p3, .ref p4, .ref p5, .int 0])), (p0, .inl (cI, 16, .inl g_2)), (p1, .inl (cI, 16, .inl g_3)), (p2, .inl (cI, 16, .inl g_4)), (p3, .inl (cI, 16, .inl g_5)), (p4, .inl (cI, 16, .inl g_6)), (p5, .inl (cI, 16, .inl g_7))] H := hP
    have hD : va_D A [(h0, .inr (1, [.ref p0, .ref p1, .ref p2, .ref p3, .ref p4, .ref p5, .int 0])), (p0, .inl (cI, 16, .inl g_2)), (p1, .inl (cI, 16, .inl g_3)), (p2, .inl (cI, 16, .inl g_4)), (p3, .inl (cI, 16, .inl g_5)), (p4, .inl (cI, 16, .inl g_6)), (p5, .inl (cI, 16, .inl g_7))] := hD
    refine lv_aload_n hx hb dX1_add_83 rfl (lv_at hl 0 rfl) ?_
    refine lv_dup hx hb dX1_add_84 rfl ?_
    refine va_get (D := D) (ci := 1) (v := .int 0) (C := RX1) (T := TX1) (N := 7) hx hb hts w_1 hown hK hP 0 rfl rfl 6 (by decide) w_2 (fun _ h9 => h9) rfl dX1_add_85 ?_
    refine lv_iconst (v := 1) hx hb dX1_add_88 (by decide) ?_
    refine sv_iadd (v := 1) hx hb dX1_add_89 (by decide) ?_
    refine va_put (D := D) (ci := 1) (v := .int 1) (ty := .int) (C := RX1) (T := TX1) (N := 7) hx hb hts w_1 tyX1 tyX1_ok nmX1 hown hK hP hD hS 0 rfl rfl 6 (by decide) w_2 (fun _ h9 => h9) rfl (by decide +kernel) rfl rfl (Nat.le_of_ble_eq_true rfl) dX1_add_90 (fun H locs hP hD hS => ?_)
    have hP : va_P D vwCl [(h0, .inr (1, [.ref p0, .ref p1, .ref p2, .ref p3, .ref p4, .ref p5, .int 1])), (p0, .inl (cI, 16, .inl g_2)), (p1, .inl (cI, 16, .inl g_3)), (p2, .inl (cI, 16, .inl g_4)), (p3, .inl (cI, 16, .inl g_5)), (p4, .inl (cI, 16, .inl g_6)), (p5, .inl (cI, 16, .inl g_7))] H := hP
    have hD : va_D A [(h0, .inr (1, [.ref p0, .ref p1, .ref p2, .ref p3, .ref p4, .ref p5, .int 1])), (p0, .inl (cI, 16, .inl g_2)), (p1, .inl (cI, 16, .inl g_3)), (p2, .inl (cI, 16, .inl g_4)), (p3, .inl (cI, 16, .inl g_5)), (p4, .inl (cI, 16, .inl g_6)), (p5, .inl (cI, 16, .inl g_7))] := hD
    refine lv_aload_n hx hb dX1_add_93 rfl (lv_at hl 0 rfl) ?_
    refine va_get (D := D) (ci := 1) (v := .int 1) (C := RX1) (T := TX1) (N := 7) hx hb hts w_1 hown hK hP 0 rfl rfl 6 (by decide) w_2 (fun _ h9 => h9) rfl dX1_add_94 ?_
    refine lv_iconst (v := 1) hx hb dX1_add_97 (by decide) ?_
    refine sv_isub (v := 0) hx hb dX1_add_98 (by decide) ?_
    have hP9 := hP.sub (ws' := []) [] rfl
    have hD9 := hD.sub (ws' := []) [] (by decide) rfl
    exact W.iret (v := 0) hx hb hr (fun t ht hW => ⟨⟨_, (), rfl, (if_pos (Classical.byContradiction (fun h9 => absurd (hw_r_1.trans (if_neg h9)) c_17))).symm, by rw [ht]; exact hP9, va_K.moved hW.alike hK, hD9⟩, hS.F ht⟩) hS.2.2 dX1_add_99
  ·
    refine lv_iconst (v := (-1)) hx hb dX1_add_20 (by decide) ?_
    have hP9 := hP.sub (ws' := []) [] rfl
    have hD9 := hD.sub (ws' := []) [] (by decide) rfl
    exact W.iret (v := (-1)) hx hb hr (fun t ht hW => ⟨⟨_, (), rfl, (if_neg (fun h9 => absurd (c_17.symm.trans (hw_r_1.trans (if_pos h9))) (by decide))).symm, by rw [ht]; exact hP9, va_K.moved hW.alike hK, hD9⟩, hS.F ht⟩) hS.2.2 dX1_add_21

set_option maxHeartbeats 4000000 in
set_option maxRecDepth 100000 in
/-- the first legacy -/
theorem k_X0_add (l : Launch) (D : va_G) (cB cI cJ cZ : ClassId) (sz : Nat) (h0 p0 p1 p2 p6 p7 p8 : Nat) (n ee : Int32) : Met l yX0_add wsX0_add ({ frames := 0, cells := 0, slots := 0, locals := 0 } : Room) (cPre D (aTy cB cI cJ cZ) [(h0, .inr (0, [.ref p0, .ref p1, .ref p2, .int 0, .int 0, .int 0, .ref p6, .ref p7, .ref p8])), (p0, .inl (cI, 6, .inl (fun _ => 0))), (p1, .inl (cI, 6, .inl (fun _ => 0))), (p2, .inl (cI, 8, .inl (fun _ => 0))), (p6, .inl (cI, 8, .inl (fun _ => 0))), (p7, .inl (cI, 8, .inl (fun _ => 0))), (p8, .inl (cI, 64, .inl (fun _ => 0)))] sz [.ref h0, .int n, .int ee]) (va_Qi (fun (r : Int32) (u : Unit) => r = if okL n ee then 0 else -1) (cB_ D (aTy cB cI cJ cZ) (va_A [(h0, .inr (0, [.ref p0, .ref p1, .ref p2, .int 0, .int 0, .int 0, .ref p6, .ref p7, .ref p8])), (p0, .inl (cI, 6, .inl (fun _ => 0))), (p1, .inl (cI, 6, .inl (fun _ => 0))), (p2, .inl (cI, 8, .inl (fun _ => 0))), (p6, .inl (cI, 8, .inl (fun _ => 0))), (p7, .inl (cI, 8, .inl (fun _ => 0))), (p8, .inl (cI, 64, .inl (fun _ => 0)))] sz) (fun _ => [])) (va_A [(h0, .inr (0, [.ref p0, .ref p1, .ref p2, .int 0, .int 0, .int 0, .ref p6, .ref p7, .ref p8])), (p0, .inl (cI, 6, .inl (fun _ => 0))), (p1, .inl (cI, 6, .inl (fun _ => 0))), (p2, .inl (cI, 8, .inl (fun _ => 0))), (p6, .inl (cI, 8, .inl (fun _ => 0))), (p7, .inl (cI, 8, .inl (fun _ => 0))), (p8, .inl (cI, 64, .inl (fun _ => 0)))] sz)) 0 0 (va_A [(h0, .inr (0, [.ref p0, .ref p1, .ref p2, .int 0, .int 0, .int 0, .ref p6, .ref p7, .ref p8])), (p0, .inl (cI, 6, .inl (fun _ => 0))), (p1, .inl (cI, 6, .inl (fun _ => 0))), (p2, .inl (cI, 8, .inl (fun _ => 0))), (p6, .inl (cI, 8, .inl (fun _ => 0))), (p7, .inl (cI, 8, .inl (fun _ => 0))), (p8, .inl (cI, 64, .inl (fun _ => 0)))] sz) := by
  refine Met.ofW (cc := cX0_add) (maxL := 3) (ret := (some .int)) (by decide) rfl ?_
  intro p e s m args below meth c s₁ B hml hv
  obtain ⟨rfl, hsz, hP, hK, hD0⟩ := hv
  have hx := B.exec
  have hb := B.bytes
  have hr := B.returns
  have hts := atoms_spec (ws := wsX0_add) B.pre
  have hown : s.vm.findClass RX0 = some m.cls := findClass_of_methodNamed B.named
  have hlocks := B.notSynchronized
  subst hsz
  have hD := hD0.self (sz := s.heap.size)
  generalize hAe : va_A [(h0, .inr (0, [.ref p0, .ref p1, .ref p2, .int 0, .int 0, .int 0, .ref p6, .ref p7, .ref p8])), (p0, .inl (cI, 6, .inl (fun _ => 0))), (p1, .inl (cI, 6, .inl (fun _ => 0))), (p2, .inl (cI, 8, .inl (fun _ => 0))), (p6, .inl (cI, 8, .inl (fun _ => 0))), (p7, .inl (cI, 8, .inl (fun _ => 0))), (p8, .inl (cI, 64, .inl (fun _ => 0)))] s.heap.size = A at hD ⊢
  have hA : ∀ q : Nat, s.heap.size ≤ q → A q := fun q h => by rw [← hAe]; exact Or.inr h
  have hS : va_S A s.heap s.heap [] := va_S.rf
  have hP : va_P D vwCl [(h0, .inr (0, [.ref p0, .ref p1, .ref p2, .int 0, .int 0, .int 0, .ref p6, .ref p7, .ref p8])), (p0, .inl (cI, 6, .inl (fun _ => 0))), (p1, .inl (cI, 6, .inl (fun _ => 0))), (p2, .inl (cI, 8, .inl (fun _ => 0))), (p6, .inl (cI, 8, .inl (fun _ => 0))), (p7, .inl (cI, 8, .inl (fun _ => 0))), (p8, .inl (cI, 64, .inl (fun _ => 0)))] s.heap := hP
  have w_1 : ∀ w ∈ wsX00, w ∈ wsX0_add := by decide +kernel
  have w_2 := hts (Cond.fieldLink RX0 30 "BlueCoats$Chest" "number" "I") (by decide +kernel)
  have w_3 := hts (Cond.fieldLink RX0 21 "BlueCoats$Chest" "coins" "[I") (by decide +kernel)
  have w_4 := hts (Cond.fieldLink RX0 24 "BlueCoats$Chest" "ends" "[I") (by decide +kernel)
  have hl := lv_entry ([.ref h0, .int n, .int ee]) (n := 3) (Nat.le_of_ble_eq_true rfl)
  rw [lg_entry_eq]
  generalize (lg_sl ([.ref h0, .int n, .int ee]) ++ List.replicate (3 - (lg_sl ([.ref h0, .int n, .int ee])).length) Slot.unset).toArray = ls at hl ⊢
  have hl : lv_has ls 3 [(0, .ref h0), (1, .int n), (2, .int ee)] := hl
  refine lv_aload_n hx hb dX0_add_0 rfl (lv_at hl 0 rfl) ?_
  refine va_get (D := D) (ci := 0) (v := .int 0) (C := RX0) (T := TX0) (N := 9) hx hb hts w_1 hown hK hP 0 rfl rfl 3 (by decide) w_2 (fun _ h9 => h9) rfl dX0_add_1 ?_
  refine lv_bipush (v := 8) hx hb dX0_add_4 (by decide) ?_
  refine lv_icmp_ge (tgt := 30) hx hb dX0_add_6 (by decide) (fun h => absurd h (by decide)) (fun _ => ?_)
  refine lv_iload_n hx hb dX0_add_9 rfl (lv_at hl 1 rfl) ?_
  refine lv_if_lt (tgt := 30) hx hb dX0_add_10 (by decide) (fun c_10 => ?_) (fun c_10 => ?_)
  ·
    refine lv_iconst (v := (-1)) hx hb dX0_add_30 (by decide) ?_
    have hP9 := hP.sub (ws' := []) [] rfl
    have hD9 := hD.sub (ws' := []) [] (by decide) rfl
    exact W.iret (v := (-1)) hx hb hr (fun t ht hW => ⟨⟨_, (), rfl, (if_neg (fun h => h.1 c_10)).symm, by rw [ht]; exact hP9, va_K.moved hW.alike hK, hD9⟩, hS.F ht⟩) hS.2.2 dX0_add_31
  ·
    refine lv_iload_n hx hb dX0_add_13 rfl (lv_at hl 1 rfl) ?_
    refine lv_sipush (v := 9999) hx hb dX0_add_14 (by decide) ?_
    refine lv_icmp_gt (tgt := 30) hx hb dX0_add_17 (by decide) (fun c_17 => ?_) (fun c_17 => ?_)
    ·
      refine lv_iconst (v := (-1)) hx hb dX0_add_30 (by decide) ?_
      have hP9 := hP.sub (ws' := []) [] rfl
      have hD9 := hD.sub (ws' := []) [] (by decide) rfl
      exact W.iret (v := (-1)) hx hb hr (fun t ht hW => ⟨⟨_, (), rfl, (if_neg (fun h => h.2.1 c_17)).symm, by rw [ht]; exact hP9, va_K.moved hW.alike hK, hD9⟩, hS.F ht⟩) hS.2.2 dX0_add_31
    ·
      refine lv_iload_n hx hb dX0_add_20 rfl (lv_at hl 2 rfl) ?_
      refine lv_if_lt (tgt := 30) hx hb dX0_add_21 (by decide) (fun c_21 => ?_) (fun c_21 => ?_)
      ·
        refine lv_iconst (v := (-1)) hx hb dX0_add_30 (by decide) ?_
        have hP9 := hP.sub (ws' := []) [] rfl
        have hD9 := hD.sub (ws' := []) [] (by decide) rfl
        exact W.iret (v := (-1)) hx hb hr (fun t ht hW => ⟨⟨_, (), rfl, (if_neg (fun h => h.2.2.1 c_21)).symm, by rw [ht]; exact hP9, va_K.moved hW.alike hK, hD9⟩, hS.F ht⟩) hS.2.2 dX0_add_31
      ·
        refine lv_iload_n hx hb dX0_add_24 rfl (lv_at hl 2 rfl) ?_
        refine lv_bipush (v := 64) hx hb dX0_add_25 (by decide) ?_
        refine lv_icmp_lt (tgt := 32) hx hb dX0_add_27 (by decide) (fun c_27 => ?_) (fun c_27 => ?_)
        ·
          refine lv_aload_n hx hb dX0_add_32 rfl (lv_at hl 0 rfl) ?_
          refine va_get (D := D) (ci := 0) (v := .ref p6) (C := RX0) (T := TX0) (N := 9) hx hb hts w_1 hown hK hP 0 rfl rfl 6 (by decide) w_3 (fun _ h9 => h9) rfl dX0_add_33 ?_
          refine lv_aload_n hx hb dX0_add_36 rfl (lv_at hl 0 rfl) ?_
          refine va_get (D := D) (ci := 0) (v := .int 0) (C := RX0) (T := TX0) (N := 9) hx hb hts w_1 hown hK hP 0 rfl rfl 3 (by decide) w_2 (fun _ h9 => h9) rfl dX0_add_37 ?_
          refine lv_iload_n hx hb dX0_add_40 rfl (lv_at hl 1 rfl) ?_
          refine sv_iast hx hb hK hP hD hS 4 1 rfl rfl (vp_in_iff.mpr (by decide)) dX0_add_41 (fun g_1 H locs eg_1 hP hD hS => ?_)
          have hP : va_P D vwCl [(h0, .inr (0, [.ref p0, .ref p1, .ref p2, .int 0, .int 0, .int 0, .ref p6, .ref p7, .ref p8])), (p0, .inl (cI, 6, .inl (fun _ => 0))), (p1, .inl (cI, 6, .inl (fun _ => 0))), (p2, .inl (cI, 8, .inl (fun _ => 0))), (p6, .inl (cI, 8, .inl g_1)), (p7, .inl (cI, 8, .inl (fun _ => 0))), (p8, .inl (cI, 64, .inl (fun _ => 0)))] H := hP
          have hD : va_D A [(h0, .inr (0, [.ref p0, .ref p1, .ref p2, .int 0, .int 0, .int 0, .ref p6, .ref p7, .ref p8])), (p0, .inl (cI, 6, .inl (fun _ => 0))), (p1, .inl (cI, 6, .inl (fun _ => 0))), (p2, .inl (cI, 8, .inl (fun _ => 0))), (p6, .inl (cI, 8, .inl g_1)), (p7, .inl (cI, 8, .inl (fun _ => 0))), (p8, .inl (cI, 64, .inl (fun _ => 0)))] := hD
          refine lv_aload_n hx hb dX0_add_42 rfl (lv_at hl 0 rfl) ?_
          refine va_get (D := D) (ci := 0) (v := .ref p7) (C := RX0) (T := TX0) (N := 9) hx hb hts w_1 hown hK hP 0 rfl rfl 7 (by decide) w_4 (fun _ h9 => h9) rfl dX0_add_43 ?_
          refine lv_aload_n hx hb dX0_add_46 rfl (lv_at hl 0 rfl) ?_
          refine va_get (D := D) (ci := 0) (v := .int 0) (C := RX0) (T := TX0) (N := 9) hx hb hts w_1 hown hK hP 0 rfl rfl 3 (by decide) w_2 (fun _ h9 => h9) rfl dX0_add_47 ?_
          refine lv_iload_n hx hb dX0_add_50 rfl (lv_at hl 2 rfl) ?_
          refine sv_iast hx hb hK hP hD hS 5 1 rfl rfl (vp_in_iff.mpr (by decide)) dX0_add_51 (fun g_2 H locs eg_2 hP hD hS => ?_)
          have hP : va_P D vwCl [(h0, .inr (0, [.ref p0, .ref p1, .ref p2, .int 0, .int 0, .int 0, .ref p6, .ref p7, .ref p8])), (p0, .inl (cI, 6, .inl (fun _ => 0))), (p1, .inl (cI, 6, .inl (fun _ => 0))), (p2, .inl (cI, 8, .inl (fun _ => 0))), (p6, .inl (cI, 8, .inl g_1)), (p7, .inl (cI, 8, .inl g_2)), (p8, .inl (cI, 64, .inl (fun _ => 0)))] H := hP
          have hD : va_D A [(h0, .inr (0, [.ref p0, .ref p1, .ref p2, .int 0, .int 0, .int 0, .ref p6, .ref p7, .ref p8])), (p0, .inl (cI, 6, .inl (fun _ => 0))), (p1, .inl (cI, 6, .inl (fun _ => 0))), (p2, .inl (cI, 8, .inl (fun _ => 0))), (p6, .inl (cI, 8, .inl g_1)), (p7, .inl (cI, 8, .inl g_2)), (p8, .inl (cI, 64, .inl (fun _ => 0)))] := hD
          refine lv_aload_n hx hb dX0_add_52 rfl (lv_at hl 0 rfl) ?_
          refine lv_dup hx hb dX0_add_53 rfl ?_
          refine va_get (D := D) (ci := 0) (v := .int 0) (C := RX0) (T := TX0) (N := 9) hx hb hts w_1 hown hK hP 0 rfl rfl 3 (by decide) w_2 (fun _ h9 => h9) rfl dX0_add_54 ?_
          refine lv_iconst (v := 1) hx hb dX0_add_57 (by decide) ?_
          refine sv_iadd (v := 1) hx hb dX0_add_58 (by decide) ?_
          refine va_put (D := D) (ci := 0) (v := .int 1) (ty := .int) (C := RX0) (T := TX0) (N := 9) hx hb hts w_1 tyX0 tyX0_ok nmX0 hown hK hP hD hS 0 rfl rfl 3 (by decide) w_2 (fun _ h9 => h9) rfl (by decide +kernel) rfl rfl (Nat.le_of_ble_eq_true rfl) dX0_add_59 (fun H locs hP hD hS => ?_)
          have hP : va_P D vwCl [(h0, .inr (0, [.ref p0, .ref p1, .ref p2, .int 1, .int 0, .int 0, .ref p6, .ref p7, .ref p8])), (p0, .inl (cI, 6, .inl (fun _ => 0))), (p1, .inl (cI, 6, .inl (fun _ => 0))), (p2, .inl (cI, 8, .inl (fun _ => 0))), (p6, .inl (cI, 8, .inl g_1)), (p7, .inl (cI, 8, .inl g_2)), (p8, .inl (cI, 64, .inl (fun _ => 0)))] H := hP
          have hD : va_D A [(h0, .inr (0, [.ref p0, .ref p1, .ref p2, .int 1, .int 0, .int 0, .ref p6, .ref p7, .ref p8])), (p0, .inl (cI, 6, .inl (fun _ => 0))), (p1, .inl (cI, 6, .inl (fun _ => 0))), (p2, .inl (cI, 8, .inl (fun _ => 0))), (p6, .inl (cI, 8, .inl g_1)), (p7, .inl (cI, 8, .inl g_2)), (p8, .inl (cI, 64, .inl (fun _ => 0)))] := hD
          refine lv_aload_n hx hb dX0_add_62 rfl (lv_at hl 0 rfl) ?_
          refine va_get (D := D) (ci := 0) (v := .int 1) (C := RX0) (T := TX0) (N := 9) hx hb hts w_1 hown hK hP 0 rfl rfl 3 (by decide) w_2 (fun _ h9 => h9) rfl dX0_add_63 ?_
          refine lv_iconst (v := 1) hx hb dX0_add_66 (by decide) ?_
          refine sv_isub (v := 0) hx hb dX0_add_67 (by decide) ?_
          have hP9 := hP.sub (ws' := []) [] rfl
          have hD9 := hD.sub (ws' := []) [] (by decide) rfl
          exact W.iret (v := 0) hx hb hr (fun t ht hW => ⟨⟨_, (), rfl, (if_pos ⟨c_10, c_17, c_21, (i_lt64 c_27)⟩).symm, by rw [ht]; exact hP9, va_K.moved hW.alike hK, hD9⟩, hS.F ht⟩) hS.2.2 dX0_add_68
        ·
          refine lv_iconst (v := (-1)) hx hb dX0_add_30 (by decide) ?_
          have hP9 := hP.sub (ws' := []) [] rfl
          have hD9 := hD.sub (ws' := []) [] (by decide) rfl
          exact W.iret (v := (-1)) hx hb hr (fun t ht hW => ⟨⟨_, (), rfl, (if_neg (fun h => h.2.2.2 (i_ge64 c_27))).symm, by rw [ht]; exact hP9, va_K.moved hW.alike hK, hD9⟩, hS.F ht⟩) hS.2.2 dX0_add_31

set_option maxHeartbeats 4000000 in
set_option maxRecDepth 100000 in
/-- four bytes more, at 0 -/
theorem k_X4_app0 (l : Launch) (D : va_G) (cB cI cJ cZ : ClassId) (sz : Nat) (h0 dr tp : Nat) (f : Nat → Int32) (v : Int32) : Met l yX4_append wsX4_append ({ frames := 0, cells := 0, slots := 0, locals := 0 } : Room) (cPre D (aTy cB cI cJ cZ) [(h0, .inr (4, [.ref dr, .int 0, .int (-1), .int 0, .ref tp, .int 0, .int 0, .int 0, .int 0, .int 0, .int 0])), (tp, .inl (cB, 300, .inl f))] sz [.ref h0, .int v]) (va_Qv (fun (u : Nat → Int32) => True) (cB_ D (aTy cB cI cJ cZ) (va_A [(h0, .inr (4, [.ref dr, .int 0, .int (-1), .int 0, .ref tp, .int 0, .int 0, .int 0, .int 0, .int 0, .int 0])), (tp, .inl (cB, 300, .inl f))] sz) (fun g => [(h0, .inr (4, [.ref dr, .int 0, .int (-1), .int 4, .ref tp, .int 0, .int 0, .int 0, .int 0, .int 0, .int 0])), (tp, .inl (cB, 300, .inl g))])) (va_A [(h0, .inr (4, [.ref dr, .int 0, .int (-1), .int 0, .ref tp, .int 0, .int 0, .int 0, .int 0, .int 0, .int 0])), (tp, .inl (cB, 300, .inl f))] sz)) 0 0 (va_A [(h0, .inr (4, [.ref dr, .int 0, .int (-1), .int 0, .ref tp, .int 0, .int 0, .int 0, .int 0, .int 0, .int 0])), (tp, .inl (cB, 300, .inl f))] sz) := by
  refine Met.ofW (cc := cX4_append) (maxL := 3) (ret := none) (by decide) rfl ?_
  intro p e s m args below meth c s₁ B hml hv
  obtain ⟨rfl, hsz, hP, hK, hD0⟩ := hv
  have hx := B.exec
  have hb := B.bytes
  have hr := B.returns
  have hts := atoms_spec (ws := wsX4_append) B.pre
  have hown : s.vm.findClass RX4 = some m.cls := findClass_of_methodNamed B.named
  have hlocks := B.notSynchronized
  subst hsz
  have hD := hD0.self (sz := s.heap.size)
  generalize hAe : va_A [(h0, .inr (4, [.ref dr, .int 0, .int (-1), .int 0, .ref tp, .int 0, .int 0, .int 0, .int 0, .int 0, .int 0])), (tp, .inl (cB, 300, .inl f))] s.heap.size = A at hD ⊢
  have hA : ∀ q : Nat, s.heap.size ≤ q → A q := fun q h => by rw [← hAe]; exact Or.inr h
  have hS : va_S A s.heap s.heap [] := va_S.rf
  have hP : va_P D vwCl [(h0, .inr (4, [.ref dr, .int 0, .int (-1), .int 0, .ref tp, .int 0, .int 0, .int 0, .int 0, .int 0, .int 0])), (tp, .inl (cB, 300, .inl f))] s.heap := hP
  have w_1 : ∀ w ∈ wsX40, w ∈ wsX4_append := by decide +kernel
  have w_2 := hts (Cond.fieldLink RX4 29 "BlueCoats$Reader" "taped" "I") (by decide +kernel)
  have w_3 := hts (Cond.fieldLink RX4 25 "BlueCoats$Reader" "tape" "[B") (by decide +kernel)
  have hl := lv_entry ([.ref h0, .int v]) (n := 3) (Nat.le_of_ble_eq_true rfl)
  rw [lg_entry_eq]
  generalize (lg_sl ([.ref h0, .int v]) ++ List.replicate (3 - (lg_sl ([.ref h0, .int v])).length) Slot.unset).toArray = ls at hl ⊢
  have hl : lv_has ls 3 [(0, .ref h0), (1, .int v)] := hl
  refine lv_bipush (v := 24) hx hb dX4_append_0 (by decide) ?_
  refine lv_istore_n (lv' := [(2, .int 24), (0, .ref h0), (1, .int v)]) hx hb dX4_append_2 rfl hl (by decide) rfl (fun ls hl => ?_)
  refine lv_iload_n hx hb dX4_append_3 rfl (lv_at hl 0 rfl) ?_
  refine lv_if_lt (tgt := 46) hx hb dX4_append_4 (by decide) (fun h => absurd h (by decide)) (fun _ => ?_)
  refine lv_aload_n hx hb dX4_append_7 rfl (lv_at hl 1 rfl) ?_
  refine va_get (D := D) (ci := 4) (v := .int 0) (C := RX4) (T := TX4) (N := 11) hx hb hts w_1 hown hK hP 0 rfl rfl 3 (by decide) w_2 (fun _ h9 => h9) rfl dX4_append_8 ?_
  refine lv_sipush (v := 300) hx hb dX4_append_11 (by decide) ?_
  refine lv_icmp_ge (tgt := 40) hx hb dX4_append_14 (by decide) (fun h => absurd h (by decide)) (fun _ => ?_)
  refine lv_aload_n hx hb dX4_append_17 rfl (lv_at hl 1 rfl) ?_
  refine va_get (D := D) (ci := 4) (v := .ref tp) (C := RX4) (T := TX4) (N := 11) hx hb hts w_1 hown hK hP 0 rfl rfl 4 (by decide) w_3 (fun _ h9 => h9) rfl dX4_append_18 ?_
  refine lv_aload_n hx hb dX4_append_21 rfl (lv_at hl 1 rfl) ?_
  refine va_get (D := D) (ci := 4) (v := .int 0) (C := RX4) (T := TX4) (N := 11) hx hb hts w_1 hown hK hP 0 rfl rfl 3 (by decide) w_2 (fun _ h9 => h9) rfl dX4_append_22 ?_
  refine lv_iload_n hx hb dX4_append_25 rfl (lv_at hl 2 rfl) ?_
  refine lv_iload_n hx hb dX4_append_26 rfl (lv_at hl 0 rfl) ?_
  refine lv_iushr (v := (v.toUInt32 >>> ((24 : Int32).toUInt32 &&& Int32.toUInt32 31)).toInt32) hx hb dX4_append_27 rfl ?_
  refine lv_i2b (v := ((v.toUInt32 >>> ((24 : Int32).toUInt32 &&& Int32.toUInt32 31)).toInt32).toInt8.toInt32) hx hb dX4_append_28 rfl ?_
  refine sv_bast hx hb hK hP hD hS 1 0 rfl rfl (vp_in_iff.mpr (by decide)) dX4_append_29 (fun g_1 H locs eg_1 hP hD hS => ?_)
  have hP : va_P D vwCl [(h0, .inr (4, [.ref dr, .int 0, .int (-1), .int 0, .ref tp, .int 0, .int 0, .int 0, .int 0, .int 0, .int 0])), (tp, .inl (cB, 300, .inl g_1))] H := hP
  have hD : va_D A [(h0, .inr (4, [.ref dr, .int 0, .int (-1), .int 0, .ref tp, .int 0, .int 0, .int 0, .int 0, .int 0, .int 0])), (tp, .inl (cB, 300, .inl g_1))] := hD
  refine lv_aload_n hx hb dX4_append_30 rfl (lv_at hl 1 rfl) ?_
  refine lv_dup hx hb dX4_append_31 rfl ?_
  refine va_get (D := D) (ci := 4) (v := .int 0) (C := RX4) (T := TX4) (N := 11) hx hb hts w_1 hown hK hP 0 rfl rfl 3 (by decide) w_2 (fun _ h9 => h9) rfl dX4_append_32 ?_
  refine lv_iconst (v := 1) hx hb dX4_append_35 (by decide) ?_
  refine sv_iadd (v := 1) hx hb dX4_append_36 (by decide) ?_
  refine va_put (D := D) (ci := 4) (v := .int 1) (ty := .int) (C := RX4) (T := TX4) (N := 11) hx hb hts w_1 tyX4 tyX4_ok nmX4 hown hK hP hD hS 0 rfl rfl 3 (by decide) w_2 (fun _ h9 => h9) rfl (by decide +kernel) rfl rfl (Nat.le_of_ble_eq_true rfl) dX4_append_37 (fun H locs hP hD hS => ?_)
  have hP : va_P D vwCl [(h0, .inr (4, [.ref dr, .int 0, .int (-1), .int 1, .ref tp, .int 0, .int 0, .int 0, .int 0, .int 0, .int 0])), (tp, .inl (cB, 300, .inl g_1))] H := hP
  have hD : va_D A [(h0, .inr (4, [.ref dr, .int 0, .int (-1), .int 1, .ref tp, .int 0, .int 0, .int 0, .int 0, .int 0, .int 0])), (tp, .inl (cB, 300, .inl g_1))] := hD
  refine lv_iinc (v := 16) (lv' := [(2, .int 16), (0, .ref h0), (1, .int v)]) hx hb dX4_append_40 hl (k := 0) rfl (by decide) (by decide) rfl (fun ls hl => ?_)
  refine lv_goto (tgt := 3) hx hb dX4_append_43 (by decide) ?_
  refine lv_iload_n hx hb dX4_append_3 rfl (lv_at hl 0 rfl) ?_
  refine lv_if_lt (tgt := 46) hx hb dX4_append_4 (by decide) (fun h => absurd h (by decide)) (fun _ => ?_)
  refine lv_aload_n hx hb dX4_append_7 rfl (lv_at hl 1 rfl) ?_
  refine va_get (D := D) (ci := 4) (v := .int 1) (C := RX4) (T := TX4) (N := 11) hx hb hts w_1 hown hK hP 0 rfl rfl 3 (by decide) w_2 (fun _ h9 => h9) rfl dX4_append_8 ?_
  refine lv_sipush (v := 300) hx hb dX4_append_11 (by decide) ?_
  refine lv_icmp_ge (tgt := 40) hx hb dX4_append_14 (by decide) (fun h => absurd h (by decide)) (fun _ => ?_)
  refine lv_aload_n hx hb dX4_append_17 rfl (lv_at hl 1 rfl) ?_
  refine va_get (D := D) (ci := 4) (v := .ref tp) (C := RX4) (T := TX4) (N := 11) hx hb hts w_1 hown hK hP 0 rfl rfl 4 (by decide) w_3 (fun _ h9 => h9) rfl dX4_append_18 ?_
  refine lv_aload_n hx hb dX4_append_21 rfl (lv_at hl 1 rfl) ?_
  refine va_get (D := D) (ci := 4) (v := .int 1) (C := RX4) (T := TX4) (N := 11) hx hb hts w_1 hown hK hP 0 rfl rfl 3 (by decide) w_2 (fun _ h9 => h9) rfl dX4_append_22 ?_
  refine lv_iload_n hx hb dX4_append_25 rfl (lv_at hl 2 rfl) ?_
  refine lv_iload_n hx hb dX4_append_26 rfl (lv_at hl 0 rfl) ?_
  refine lv_iushr (v := (v.toUInt32 >>> ((16 : Int32).toUInt32 &&& Int32.toUInt32 31)).toInt32) hx hb dX4_append_27 rfl ?_
  refine lv_i2b (v := ((v.toUInt32 >>> ((16 : Int32).toUInt32 &&& Int32.toUInt32 31)).toInt32).toInt8.toInt32) hx hb dX4_append_28 rfl ?_
  refine sv_bast hx hb hK hP hD hS 1 0 rfl rfl (vp_in_iff.mpr (by decide)) dX4_append_29 (fun g_2 H locs eg_2 hP hD hS => ?_)
  have hP : va_P D vwCl [(h0, .inr (4, [.ref dr, .int 0, .int (-1), .int 1, .ref tp, .int 0, .int 0, .int 0, .int 0, .int 0, .int 0])), (tp, .inl (cB, 300, .inl g_2))] H := hP
  have hD : va_D A [(h0, .inr (4, [.ref dr, .int 0, .int (-1), .int 1, .ref tp, .int 0, .int 0, .int 0, .int 0, .int 0, .int 0])), (tp, .inl (cB, 300, .inl g_2))] := hD
  refine lv_aload_n hx hb dX4_append_30 rfl (lv_at hl 1 rfl) ?_
  refine lv_dup hx hb dX4_append_31 rfl ?_
  refine va_get (D := D) (ci := 4) (v := .int 1) (C := RX4) (T := TX4) (N := 11) hx hb hts w_1 hown hK hP 0 rfl rfl 3 (by decide) w_2 (fun _ h9 => h9) rfl dX4_append_32 ?_
  refine lv_iconst (v := 1) hx hb dX4_append_35 (by decide) ?_
  refine sv_iadd (v := 2) hx hb dX4_append_36 (by decide) ?_
  refine va_put (D := D) (ci := 4) (v := .int 2) (ty := .int) (C := RX4) (T := TX4) (N := 11) hx hb hts w_1 tyX4 tyX4_ok nmX4 hown hK hP hD hS 0 rfl rfl 3 (by decide) w_2 (fun _ h9 => h9) rfl (by decide +kernel) rfl rfl (Nat.le_of_ble_eq_true rfl) dX4_append_37 (fun H locs hP hD hS => ?_)
  have hP : va_P D vwCl [(h0, .inr (4, [.ref dr, .int 0, .int (-1), .int 2, .ref tp, .int 0, .int 0, .int 0, .int 0, .int 0, .int 0])), (tp, .inl (cB, 300, .inl g_2))] H := hP
  have hD : va_D A [(h0, .inr (4, [.ref dr, .int 0, .int (-1), .int 2, .ref tp, .int 0, .int 0, .int 0, .int 0, .int 0, .int 0])), (tp, .inl (cB, 300, .inl g_2))] := hD
  refine lv_iinc (v := 8) (lv' := [(2, .int 8), (0, .ref h0), (1, .int v)]) hx hb dX4_append_40 hl (k := 0) rfl (by decide) (by decide) rfl (fun ls hl => ?_)
  refine lv_goto (tgt := 3) hx hb dX4_append_43 (by decide) ?_
  refine lv_iload_n hx hb dX4_append_3 rfl (lv_at hl 0 rfl) ?_
  refine lv_if_lt (tgt := 46) hx hb dX4_append_4 (by decide) (fun h => absurd h (by decide)) (fun _ => ?_)
  refine lv_aload_n hx hb dX4_append_7 rfl (lv_at hl 1 rfl) ?_
  refine va_get (D := D) (ci := 4) (v := .int 2) (C := RX4) (T := TX4) (N := 11) hx hb hts w_1 hown hK hP 0 rfl rfl 3 (by decide) w_2 (fun _ h9 => h9) rfl dX4_append_8 ?_
  refine lv_sipush (v := 300) hx hb dX4_append_11 (by decide) ?_
  refine lv_icmp_ge (tgt := 40) hx hb dX4_append_14 (by decide) (fun h => absurd h (by decide)) (fun _ => ?_)
  refine lv_aload_n hx hb dX4_append_17 rfl (lv_at hl 1 rfl) ?_
  refine va_get (D := D) (ci := 4) (v := .ref tp) (C := RX4) (T := TX4) (N := 11) hx hb hts w_1 hown hK hP 0 rfl rfl 4 (by decide) w_3 (fun _ h9 => h9) rfl dX4_append_18 ?_
  refine lv_aload_n hx hb dX4_append_21 rfl (lv_at hl 1 rfl) ?_
  refine va_get (D := D) (ci := 4) (v := .int 2) (C := RX4) (T := TX4) (N := 11) hx hb hts w_1 hown hK hP 0 rfl rfl 3 (by decide) w_2 (fun _ h9 => h9) rfl dX4_append_22 ?_
  refine lv_iload_n hx hb dX4_append_25 rfl (lv_at hl 2 rfl) ?_
  refine lv_iload_n hx hb dX4_append_26 rfl (lv_at hl 0 rfl) ?_
  refine lv_iushr (v := (v.toUInt32 >>> ((8 : Int32).toUInt32 &&& Int32.toUInt32 31)).toInt32) hx hb dX4_append_27 rfl ?_
  refine lv_i2b (v := ((v.toUInt32 >>> ((8 : Int32).toUInt32 &&& Int32.toUInt32 31)).toInt32).toInt8.toInt32) hx hb dX4_append_28 rfl ?_
  refine sv_bast hx hb hK hP hD hS 1 0 rfl rfl (vp_in_iff.mpr (by decide)) dX4_append_29 (fun g_3 H locs eg_3 hP hD hS => ?_)
  have hP : va_P D vwCl [(h0, .inr (4, [.ref dr, .int 0, .int (-1), .int 2, .ref tp, .int 0, .int 0, .int 0, .int 0, .int 0, .int 0])), (tp, .inl (cB, 300, .inl g_3))] H := hP
  have hD : va_D A [(h0, .inr (4, [.ref dr, .int 0, .int (-1), .int 2, .ref tp, .int 0, .int 0, .int 0, .int 0, .int 0, .int 0])), (tp, .inl (cB, 300, .inl g_3))] := hD
  refine lv_aload_n hx hb dX4_append_30 rfl (lv_at hl 1 rfl) ?_
  refine lv_dup hx hb dX4_append_31 rfl ?_
  refine va_get (D := D) (ci := 4) (v := .int 2) (C := RX4) (T := TX4) (N := 11) hx hb hts w_1 hown hK hP 0 rfl rfl 3 (by decide) w_2 (fun _ h9 => h9) rfl dX4_append_32 ?_
  refine lv_iconst (v := 1) hx hb dX4_append_35 (by decide) ?_
  refine sv_iadd (v := 3) hx hb dX4_append_36 (by decide) ?_
  refine va_put (D := D) (ci := 4) (v := .int 3) (ty := .int) (C := RX4) (T := TX4) (N := 11) hx hb hts w_1 tyX4 tyX4_ok nmX4 hown hK hP hD hS 0 rfl rfl 3 (by decide) w_2 (fun _ h9 => h9) rfl (by decide +kernel) rfl rfl (Nat.le_of_ble_eq_true rfl) dX4_append_37 (fun H locs hP hD hS => ?_)
  have hP : va_P D vwCl [(h0, .inr (4, [.ref dr, .int 0, .int (-1), .int 3, .ref tp, .int 0, .int 0, .int 0, .int 0, .int 0, .int 0])), (tp, .inl (cB, 300, .inl g_3))] H := hP
  have hD : va_D A [(h0, .inr (4, [.ref dr, .int 0, .int (-1), .int 3, .ref tp, .int 0, .int 0, .int 0, .int 0, .int 0, .int 0])), (tp, .inl (cB, 300, .inl g_3))] := hD
  refine lv_iinc (v := 0) (lv' := [(2, .int 0), (0, .ref h0), (1, .int v)]) hx hb dX4_append_40 hl (k := 0) rfl (by decide) (by decide) rfl (fun ls hl => ?_)
  refine lv_goto (tgt := 3) hx hb dX4_append_43 (by decide) ?_
  refine lv_iload_n hx hb dX4_append_3 rfl (lv_at hl 0 rfl) ?_
  refine lv_if_lt (tgt := 46) hx hb dX4_append_4 (by decide) (fun h => absurd h (by decide)) (fun _ => ?_)
  refine lv_aload_n hx hb dX4_append_7 rfl (lv_at hl 1 rfl) ?_
  refine va_get (D := D) (ci := 4) (v := .int 3) (C := RX4) (T := TX4) (N := 11) hx hb hts w_1 hown hK hP 0 rfl rfl 3 (by decide) w_2 (fun _ h9 => h9) rfl dX4_append_8 ?_
  refine lv_sipush (v := 300) hx hb dX4_append_11 (by decide) ?_
  refine lv_icmp_ge (tgt := 40) hx hb dX4_append_14 (by decide) (fun h => absurd h (by decide)) (fun _ => ?_)
  refine lv_aload_n hx hb dX4_append_17 rfl (lv_at hl 1 rfl) ?_
  refine va_get (D := D) (ci := 4) (v := .ref tp) (C := RX4) (T := TX4) (N := 11) hx hb hts w_1 hown hK hP 0 rfl rfl 4 (by decide) w_3 (fun _ h9 => h9) rfl dX4_append_18 ?_
  refine lv_aload_n hx hb dX4_append_21 rfl (lv_at hl 1 rfl) ?_
  refine va_get (D := D) (ci := 4) (v := .int 3) (C := RX4) (T := TX4) (N := 11) hx hb hts w_1 hown hK hP 0 rfl rfl 3 (by decide) w_2 (fun _ h9 => h9) rfl dX4_append_22 ?_
  refine lv_iload_n hx hb dX4_append_25 rfl (lv_at hl 2 rfl) ?_
  refine lv_iload_n hx hb dX4_append_26 rfl (lv_at hl 0 rfl) ?_
  refine lv_iushr (v := (v.toUInt32 >>> ((0 : Int32).toUInt32 &&& Int32.toUInt32 31)).toInt32) hx hb dX4_append_27 rfl ?_
  refine lv_i2b (v := ((v.toUInt32 >>> ((0 : Int32).toUInt32 &&& Int32.toUInt32 31)).toInt32).toInt8.toInt32) hx hb dX4_append_28 rfl ?_
  refine sv_bast hx hb hK hP hD hS 1 0 rfl rfl (vp_in_iff.mpr (by decide)) dX4_append_29 (fun g_4 H locs eg_4 hP hD hS => ?_)
  have hP : va_P D vwCl [(h0, .inr (4, [.ref dr, .int 0, .int (-1), .int 3, .ref tp, .int 0, .int 0, .int 0, .int 0, .int 0, .int 0])), (tp, .inl (cB, 300, .inl g_4))] H := hP
  have hD : va_D A [(h0, .inr (4, [.ref dr, .int 0, .int (-1), .int 3, .ref tp, .int 0, .int 0, .int 0, .int 0, .int 0, .int 0])), (tp, .inl (cB, 300, .inl g_4))] := hD
  refine lv_aload_n hx hb dX4_append_30 rfl (lv_at hl 1 rfl) ?_
  refine lv_dup hx hb dX4_append_31 rfl ?_
  refine va_get (D := D) (ci := 4) (v := .int 3) (C := RX4) (T := TX4) (N := 11) hx hb hts w_1 hown hK hP 0 rfl rfl 3 (by decide) w_2 (fun _ h9 => h9) rfl dX4_append_32 ?_
  refine lv_iconst (v := 1) hx hb dX4_append_35 (by decide) ?_
  refine sv_iadd (v := 4) hx hb dX4_append_36 (by decide) ?_
  refine va_put (D := D) (ci := 4) (v := .int 4) (ty := .int) (C := RX4) (T := TX4) (N := 11) hx hb hts w_1 tyX4 tyX4_ok nmX4 hown hK hP hD hS 0 rfl rfl 3 (by decide) w_2 (fun _ h9 => h9) rfl (by decide +kernel) rfl rfl (Nat.le_of_ble_eq_true rfl) dX4_append_37 (fun H locs hP hD hS => ?_)
  have hP : va_P D vwCl [(h0, .inr (4, [.ref dr, .int 0, .int (-1), .int 4, .ref tp, .int 0, .int 0, .int 0, .int 0, .int 0, .int 0])), (tp, .inl (cB, 300, .inl g_4))] H := hP
  have hD : va_D A [(h0, .inr (4, [.ref dr, .int 0, .int (-1), .int 4, .ref tp, .int 0, .int 0, .int 0, .int 0, .int 0, .int 0])), (tp, .inl (cB, 300, .inl g_4))] := hD
  refine lv_iinc (v := (-8)) (lv' := [(2, .int (-8)), (0, .ref h0), (1, .int v)]) hx hb dX4_append_40 hl (k := 0) rfl (by decide) (by decide) rfl (fun ls hl => ?_)
  refine lv_goto (tgt := 3) hx hb dX4_append_43 (by decide) ?_
  refine lv_iload_n hx hb dX4_append_3 rfl (lv_at hl 0 rfl) ?_
  refine lv_if_lt (tgt := 46) hx hb dX4_append_4 (by decide) (fun _ => ?_) (fun h => absurd (by decide) h)
  have hP9 := hP.sub (ws' := [(h0, .inr (4, [.ref dr, .int 0, .int (-1), .int 4, .ref tp, .int 0, .int 0, .int 0, .int 0, .int 0, .int 0])), (tp, .inl (cB, 300, .inl g_4))]) [0, 1] rfl
  have hD9 := hD.sub (ws' := [(h0, .inr (4, [.ref dr, .int 0, .int (-1), .int 4, .ref tp, .int 0, .int 0, .int 0, .int 0, .int 0, .int 0])), (tp, .inl (cB, 300, .inl g_4))]) [0, 1] (by decide) rfl
  exact W.vret hx hb hr (fun t ht hW => ⟨⟨g_4, rfl, trivial, by rw [ht]; exact hP9, va_K.moved hW.alike hK, hD9⟩, hS.F ht⟩) hS.2.2 dX4_append_46

set_option maxHeartbeats 4000000 in
set_option maxRecDepth 100000 in
/-- four bytes more, at 4 -/
theorem k_X4_app4 (l : Launch) (D : va_G) (cB cI cJ cZ : ClassId) (sz : Nat) (h0 dr tp : Nat) (f : Nat → Int32) (v : Int32) : Met l yX4_append wsX4_append ({ frames := 0, cells := 0, slots := 0, locals := 0 } : Room) (cPre D (aTy cB cI cJ cZ) [(h0, .inr (4, [.ref dr, .int 0, .int (-1), .int 4, .ref tp, .int 0, .int 0, .int 0, .int 0, .int 0, .int 0])), (tp, .inl (cB, 300, .inl f))] sz [.ref h0, .int v]) (va_Qv (fun (u : Nat → Int32) => True) (cB_ D (aTy cB cI cJ cZ) (va_A [(h0, .inr (4, [.ref dr, .int 0, .int (-1), .int 4, .ref tp, .int 0, .int 0, .int 0, .int 0, .int 0, .int 0])), (tp, .inl (cB, 300, .inl f))] sz) (fun g => [(h0, .inr (4, [.ref dr, .int 0, .int (-1), .int 8, .ref tp, .int 0, .int 0, .int 0, .int 0, .int 0, .int 0])), (tp, .inl (cB, 300, .inl g))])) (va_A [(h0, .inr (4, [.ref dr, .int 0, .int (-1), .int 4, .ref tp, .int 0, .int 0, .int 0, .int 0, .int 0, .int 0])), (tp, .inl (cB, 300, .inl f))] sz)) 0 0 (va_A [(h0, .inr (4, [.ref dr, .int 0, .int (-1), .int 4, .ref tp, .int 0, .int 0, .int 0, .int 0, .int 0, .int 0])), (tp, .inl (cB, 300, .inl f))] sz) := by
  refine Met.ofW (cc := cX4_append) (maxL := 3) (ret := none) (by decide) rfl ?_
  intro p e s m args below meth c s₁ B hml hv
  obtain ⟨rfl, hsz, hP, hK, hD0⟩ := hv
  have hx := B.exec
  have hb := B.bytes
  have hr := B.returns
  have hts := atoms_spec (ws := wsX4_append) B.pre
  have hown : s.vm.findClass RX4 = some m.cls := findClass_of_methodNamed B.named
  have hlocks := B.notSynchronized
  subst hsz
  have hD := hD0.self (sz := s.heap.size)
  generalize hAe : va_A [(h0, .inr (4, [.ref dr, .int 0, .int (-1), .int 4, .ref tp, .int 0, .int 0, .int 0, .int 0, .int 0, .int 0])), (tp, .inl (cB, 300, .inl f))] s.heap.size = A at hD ⊢
  have hA : ∀ q : Nat, s.heap.size ≤ q → A q := fun q h => by rw [← hAe]; exact Or.inr h
  have hS : va_S A s.heap s.heap [] := va_S.rf
  have hP : va_P D vwCl [(h0, .inr (4, [.ref dr, .int 0, .int (-1), .int 4, .ref tp, .int 0, .int 0, .int 0, .int 0, .int 0, .int 0])), (tp, .inl (cB, 300, .inl f))] s.heap := hP
  have w_1 : ∀ w ∈ wsX40, w ∈ wsX4_append := by decide +kernel
  have w_2 := hts (Cond.fieldLink RX4 29 "BlueCoats$Reader" "taped" "I") (by decide +kernel)
  have w_3 := hts (Cond.fieldLink RX4 25 "BlueCoats$Reader" "tape" "[B") (by decide +kernel)
  have hl := lv_entry ([.ref h0, .int v]) (n := 3) (Nat.le_of_ble_eq_true rfl)
  rw [lg_entry_eq]
  generalize (lg_sl ([.ref h0, .int v]) ++ List.replicate (3 - (lg_sl ([.ref h0, .int v])).length) Slot.unset).toArray = ls at hl ⊢
  have hl : lv_has ls 3 [(0, .ref h0), (1, .int v)] := hl
  refine lv_bipush (v := 24) hx hb dX4_append_0 (by decide) ?_
  refine lv_istore_n (lv' := [(2, .int 24), (0, .ref h0), (1, .int v)]) hx hb dX4_append_2 rfl hl (by decide) rfl (fun ls hl => ?_)
  refine lv_iload_n hx hb dX4_append_3 rfl (lv_at hl 0 rfl) ?_
  refine lv_if_lt (tgt := 46) hx hb dX4_append_4 (by decide) (fun h => absurd h (by decide)) (fun _ => ?_)
  refine lv_aload_n hx hb dX4_append_7 rfl (lv_at hl 1 rfl) ?_
  refine va_get (D := D) (ci := 4) (v := .int 4) (C := RX4) (T := TX4) (N := 11) hx hb hts w_1 hown hK hP 0 rfl rfl 3 (by decide) w_2 (fun _ h9 => h9) rfl dX4_append_8 ?_
  refine lv_sipush (v := 300) hx hb dX4_append_11 (by decide) ?_
  refine lv_icmp_ge (tgt := 40) hx hb dX4_append_14 (by decide) (fun h => absurd h (by decide)) (fun _ => ?_)
  refine lv_aload_n hx hb dX4_append_17 rfl (lv_at hl 1 rfl) ?_
  refine va_get (D := D) (ci := 4) (v := .ref tp) (C := RX4) (T := TX4) (N := 11) hx hb hts w_1 hown hK hP 0 rfl rfl 4 (by decide) w_3 (fun _ h9 => h9) rfl dX4_append_18 ?_
  refine lv_aload_n hx hb dX4_append_21 rfl (lv_at hl 1 rfl) ?_
  refine va_get (D := D) (ci := 4) (v := .int 4) (C := RX4) (T := TX4) (N := 11) hx hb hts w_1 hown hK hP 0 rfl rfl 3 (by decide) w_2 (fun _ h9 => h9) rfl dX4_append_22 ?_
  refine lv_iload_n hx hb dX4_append_25 rfl (lv_at hl 2 rfl) ?_
  refine lv_iload_n hx hb dX4_append_26 rfl (lv_at hl 0 rfl) ?_
  refine lv_iushr (v := (v.toUInt32 >>> ((24 : Int32).toUInt32 &&& Int32.toUInt32 31)).toInt32) hx hb dX4_append_27 rfl ?_
  refine lv_i2b (v := ((v.toUInt32 >>> ((24 : Int32).toUInt32 &&& Int32.toUInt32 31)).toInt32).toInt8.toInt32) hx hb dX4_append_28 rfl ?_
  refine sv_bast hx hb hK hP hD hS 1 0 rfl rfl (vp_in_iff.mpr (by decide)) dX4_append_29 (fun g_1 H locs eg_1 hP hD hS => ?_)
  have hP : va_P D vwCl [(h0, .inr (4, [.ref dr, .int 0, .int (-1), .int 4, .ref tp, .int 0, .int 0, .int 0, .int 0, .int 0, .int 0])), (tp, .inl (cB, 300, .inl g_1))] H := hP
  have hD : va_D A [(h0, .inr (4, [.ref dr, .int 0, .int (-1), .int 4, .ref tp, .int 0, .int 0, .int 0, .int 0, .int 0, .int 0])), (tp, .inl (cB, 300, .inl g_1))] := hD
  refine lv_aload_n hx hb dX4_append_30 rfl (lv_at hl 1 rfl) ?_
  refine lv_dup hx hb dX4_append_31 rfl ?_
  refine va_get (D := D) (ci := 4) (v := .int 4) (C := RX4) (T := TX4) (N := 11) hx hb hts w_1 hown hK hP 0 rfl rfl 3 (by decide) w_2 (fun _ h9 => h9) rfl dX4_append_32 ?_
  refine lv_iconst (v := 1) hx hb dX4_append_35 (by decide) ?_
  refine sv_iadd (v := 5) hx hb dX4_append_36 (by decide) ?_
  refine va_put (D := D) (ci := 4) (v := .int 5) (ty := .int) (C := RX4) (T := TX4) (N := 11) hx hb hts w_1 tyX4 tyX4_ok nmX4 hown hK hP hD hS 0 rfl rfl 3 (by decide) w_2 (fun _ h9 => h9) rfl (by decide +kernel) rfl rfl (Nat.le_of_ble_eq_true rfl) dX4_append_37 (fun H locs hP hD hS => ?_)
  have hP : va_P D vwCl [(h0, .inr (4, [.ref dr, .int 0, .int (-1), .int 5, .ref tp, .int 0, .int 0, .int 0, .int 0, .int 0, .int 0])), (tp, .inl (cB, 300, .inl g_1))] H := hP
  have hD : va_D A [(h0, .inr (4, [.ref dr, .int 0, .int (-1), .int 5, .ref tp, .int 0, .int 0, .int 0, .int 0, .int 0, .int 0])), (tp, .inl (cB, 300, .inl g_1))] := hD
  refine lv_iinc (v := 16) (lv' := [(2, .int 16), (0, .ref h0), (1, .int v)]) hx hb dX4_append_40 hl (k := 0) rfl (by decide) (by decide) rfl (fun ls hl => ?_)
  refine lv_goto (tgt := 3) hx hb dX4_append_43 (by decide) ?_
  refine lv_iload_n hx hb dX4_append_3 rfl (lv_at hl 0 rfl) ?_
  refine lv_if_lt (tgt := 46) hx hb dX4_append_4 (by decide) (fun h => absurd h (by decide)) (fun _ => ?_)
  refine lv_aload_n hx hb dX4_append_7 rfl (lv_at hl 1 rfl) ?_
  refine va_get (D := D) (ci := 4) (v := .int 5) (C := RX4) (T := TX4) (N := 11) hx hb hts w_1 hown hK hP 0 rfl rfl 3 (by decide) w_2 (fun _ h9 => h9) rfl dX4_append_8 ?_
  refine lv_sipush (v := 300) hx hb dX4_append_11 (by decide) ?_
  refine lv_icmp_ge (tgt := 40) hx hb dX4_append_14 (by decide) (fun h => absurd h (by decide)) (fun _ => ?_)
  refine lv_aload_n hx hb dX4_append_17 rfl (lv_at hl 1 rfl) ?_
  refine va_get (D := D) (ci := 4) (v := .ref tp) (C := RX4) (T := TX4) (N := 11) hx hb hts w_1 hown hK hP 0 rfl rfl 4 (by decide) w_3 (fun _ h9 => h9) rfl dX4_append_18 ?_
  refine lv_aload_n hx hb dX4_append_21 rfl (lv_at hl 1 rfl) ?_
  refine va_get (D := D) (ci := 4) (v := .int 5) (C := RX4) (T := TX4) (N := 11) hx hb hts w_1 hown hK hP 0 rfl rfl 3 (by decide) w_2 (fun _ h9 => h9) rfl dX4_append_22 ?_
  refine lv_iload_n hx hb dX4_append_25 rfl (lv_at hl 2 rfl) ?_
  refine lv_iload_n hx hb dX4_append_26 rfl (lv_at hl 0 rfl) ?_
  refine lv_iushr (v := (v.toUInt32 >>> ((16 : Int32).toUInt32 &&& Int32.toUInt32 31)).toInt32) hx hb dX4_append_27 rfl ?_
  refine lv_i2b (v := ((v.toUInt32 >>> ((16 : Int32).toUInt32 &&& Int32.toUInt32 31)).toInt32).toInt8.toInt32) hx hb dX4_append_28 rfl ?_
  refine sv_bast hx hb hK hP hD hS 1 0 rfl rfl (vp_in_iff.mpr (by decide)) dX4_append_29 (fun g_2 H locs eg_2 hP hD hS => ?_)
  have hP : va_P D vwCl [(h0, .inr (4, [.ref dr, .int 0, .int (-1), .int 5, .ref tp, .int 0, .int 0, .int 0, .int 0, .int 0, .int 0])), (tp, .inl (cB, 300, .inl g_2))] H := hP
  have hD : va_D A [(h0, .inr (4, [.ref dr, .int 0, .int (-1), .int 5, .ref tp, .int 0, .int 0, .int 0, .int 0, .int 0, .int 0])), (tp, .inl (cB, 300, .inl g_2))] := hD
  refine lv_aload_n hx hb dX4_append_30 rfl (lv_at hl 1 rfl) ?_
  refine lv_dup hx hb dX4_append_31 rfl ?_
  refine va_get (D := D) (ci := 4) (v := .int 5) (C := RX4) (T := TX4) (N := 11) hx hb hts w_1 hown hK hP 0 rfl rfl 3 (by decide) w_2 (fun _ h9 => h9) rfl dX4_append_32 ?_
  refine lv_iconst (v := 1) hx hb dX4_append_35 (by decide) ?_
  refine sv_iadd (v := 6) hx hb dX4_append_36 (by decide) ?_
  refine va_put (D := D) (ci := 4) (v := .int 6) (ty := .int) (C := RX4) (T := TX4) (N := 11) hx hb hts w_1 tyX4 tyX4_ok nmX4 hown hK hP hD hS 0 rfl rfl 3 (by decide) w_2 (fun _ h9 => h9) rfl (by decide +kernel) rfl rfl (Nat.le_of_ble_eq_true rfl) dX4_append_37 (fun H locs hP hD hS => ?_)
  have hP : va_P D vwCl [(h0, .inr (4, [.ref dr, .int 0, .int (-1), .int 6, .ref tp, .int 0, .int 0, .int 0, .int 0, .int 0, .int 0])), (tp, .inl (cB, 300, .inl g_2))] H := hP
  have hD : va_D A [(h0, .inr (4, [.ref dr, .int 0, .int (-1), .int 6, .ref tp, .int 0, .int 0, .int 0, .int 0, .int 0, .int 0])), (tp, .inl (cB, 300, .inl g_2))] := hD
  refine lv_iinc (v := 8) (lv' := [(2, .int 8), (0, .ref h0), (1, .int v)]) hx hb dX4_append_40 hl (k := 0) rfl (by decide) (by decide) rfl (fun ls hl => ?_)
  refine lv_goto (tgt := 3) hx hb dX4_append_43 (by decide) ?_
  refine lv_iload_n hx hb dX4_append_3 rfl (lv_at hl 0 rfl) ?_
  refine lv_if_lt (tgt := 46) hx hb dX4_append_4 (by decide) (fun h => absurd h (by decide)) (fun _ => ?_)
  refine lv_aload_n hx hb dX4_append_7 rfl (lv_at hl 1 rfl) ?_
  refine va_get (D := D) (ci := 4) (v := .int 6) (C := RX4) (T := TX4) (N := 11) hx hb hts w_1 hown hK hP 0 rfl rfl 3 (by decide) w_2 (fun _ h9 => h9) rfl dX4_append_8 ?_
  refine lv_sipush (v := 300) hx hb dX4_append_11 (by decide) ?_
  refine lv_icmp_ge (tgt := 40) hx hb dX4_append_14 (by decide) (fun h => absurd h (by decide)) (fun _ => ?_)
  refine lv_aload_n hx hb dX4_append_17 rfl (lv_at hl 1 rfl) ?_
  refine va_get (D := D) (ci := 4) (v := .ref tp) (C := RX4) (T := TX4) (N := 11) hx hb hts w_1 hown hK hP 0 rfl rfl 4 (by decide) w_3 (fun _ h9 => h9) rfl dX4_append_18 ?_
  refine lv_aload_n hx hb dX4_append_21 rfl (lv_at hl 1 rfl) ?_
  refine va_get (D := D) (ci := 4) (v := .int 6) (C := RX4) (T := TX4) (N := 11) hx hb hts w_1 hown hK hP 0 rfl rfl 3 (by decide) w_2 (fun _ h9 => h9) rfl dX4_append_22 ?_
  refine lv_iload_n hx hb dX4_append_25 rfl (lv_at hl 2 rfl) ?_
  refine lv_iload_n hx hb dX4_append_26 rfl (lv_at hl 0 rfl) ?_
  refine lv_iushr (v := (v.toUInt32 >>> ((8 : Int32).toUInt32 &&& Int32.toUInt32 31)).toInt32) hx hb dX4_append_27 rfl ?_
  refine lv_i2b (v := ((v.toUInt32 >>> ((8 : Int32).toUInt32 &&& Int32.toUInt32 31)).toInt32).toInt8.toInt32) hx hb dX4_append_28 rfl ?_
  refine sv_bast hx hb hK hP hD hS 1 0 rfl rfl (vp_in_iff.mpr (by decide)) dX4_append_29 (fun g_3 H locs eg_3 hP hD hS => ?_)
  have hP : va_P D vwCl [(h0, .inr (4, [.ref dr, .int 0, .int (-1), .int 6, .ref tp, .int 0, .int 0, .int 0, .int 0, .int 0, .int 0])), (tp, .inl (cB, 300, .inl g_3))] H := hP
  have hD : va_D A [(h0, .inr (4, [.ref dr, .int 0, .int (-1), .int 6, .ref tp, .int 0, .int 0, .int 0, .int 0, .int 0, .int 0])), (tp, .inl (cB, 300, .inl g_3))] := hD
  refine lv_aload_n hx hb dX4_append_30 rfl (lv_at hl 1 rfl) ?_
  refine lv_dup hx hb dX4_append_31 rfl ?_
  refine va_get (D := D) (ci := 4) (v := .int 6) (C := RX4) (T := TX4) (N := 11) hx hb hts w_1 hown hK hP 0 rfl rfl 3 (by decide) w_2 (fun _ h9 => h9) rfl dX4_append_32 ?_
  refine lv_iconst (v := 1) hx hb dX4_append_35 (by decide) ?_
  refine sv_iadd (v := 7) hx hb dX4_append_36 (by decide) ?_
  refine va_put (D := D) (ci := 4) (v := .int 7) (ty := .int) (C := RX4) (T := TX4) (N := 11) hx hb hts w_1 tyX4 tyX4_ok nmX4 hown hK hP hD hS 0 rfl rfl 3 (by decide) w_2 (fun _ h9 => h9) rfl (by decide +kernel) rfl rfl (Nat.le_of_ble_eq_true rfl) dX4_append_37 (fun H locs hP hD hS => ?_)
  have hP : va_P D vwCl [(h0, .inr (4, [.ref dr, .int 0, .int (-1), .int 7, .ref tp, .int 0, .int 0, .int 0, .int 0, .int 0, .int 0])), (tp, .inl (cB, 300, .inl g_3))] H := hP
  have hD : va_D A [(h0, .inr (4, [.ref dr, .int 0, .int (-1), .int 7, .ref tp, .int 0, .int 0, .int 0, .int 0, .int 0, .int 0])), (tp, .inl (cB, 300, .inl g_3))] := hD
  refine lv_iinc (v := 0) (lv' := [(2, .int 0), (0, .ref h0), (1, .int v)]) hx hb dX4_append_40 hl (k := 0) rfl (by decide) (by decide) rfl (fun ls hl => ?_)
  refine lv_goto (tgt := 3) hx hb dX4_append_43 (by decide) ?_
  refine lv_iload_n hx hb dX4_append_3 rfl (lv_at hl 0 rfl) ?_
  refine lv_if_lt (tgt := 46) hx hb dX4_append_4 (by decide) (fun h => absurd h (by decide)) (fun _ => ?_)
  refine lv_aload_n hx hb dX4_append_7 rfl (lv_at hl 1 rfl) ?_
  refine va_get (D := D) (ci := 4) (v := .int 7) (C := RX4) (T := TX4) (N := 11) hx hb hts w_1 hown hK hP 0 rfl rfl 3 (by decide) w_2 (fun _ h9 => h9) rfl dX4_append_8 ?_
  refine lv_sipush (v := 300) hx hb dX4_append_11 (by decide) ?_
  refine lv_icmp_ge (tgt := 40) hx hb dX4_append_14 (by decide) (fun h => absurd h (by decide)) (fun _ => ?_)
  refine lv_aload_n hx hb dX4_append_17 rfl (lv_at hl 1 rfl) ?_
  refine va_get (D := D) (ci := 4) (v := .ref tp) (C := RX4) (T := TX4) (N := 11) hx hb hts w_1 hown hK hP 0 rfl rfl 4 (by decide) w_3 (fun _ h9 => h9) rfl dX4_append_18 ?_
  refine lv_aload_n hx hb dX4_append_21 rfl (lv_at hl 1 rfl) ?_
  refine va_get (D := D) (ci := 4) (v := .int 7) (C := RX4) (T := TX4) (N := 11) hx hb hts w_1 hown hK hP 0 rfl rfl 3 (by decide) w_2 (fun _ h9 => h9) rfl dX4_append_22 ?_
  refine lv_iload_n hx hb dX4_append_25 rfl (lv_at hl 2 rfl) ?_
  refine lv_iload_n hx hb dX4_append_26 rfl (lv_at hl 0 rfl) ?_
  refine lv_iushr (v := (v.toUInt32 >>> ((0 : Int32).toUInt32 &&& Int32.toUInt32 31)).toInt32) hx hb dX4_append_27 rfl ?_
  refine lv_i2b (v := ((v.toUInt32 >>> ((0 : Int32).toUInt32 &&& Int32.toUInt32 31)).toInt32).toInt8.toInt32) hx hb dX4_append_28 rfl ?_
  refine sv_bast hx hb hK hP hD hS 1 0 rfl rfl (vp_in_iff.mpr (by decide)) dX4_append_29 (fun g_4 H locs eg_4 hP hD hS => ?_)
  have hP : va_P D vwCl [(h0, .inr (4, [.ref dr, .int 0, .int (-1), .int 7, .ref tp, .int 0, .int 0, .int 0, .int 0, .int 0, .int 0])), (tp, .inl (cB, 300, .inl g_4))] H := hP
  have hD : va_D A [(h0, .inr (4, [.ref dr, .int 0, .int (-1), .int 7, .ref tp, .int 0, .int 0, .int 0, .int 0, .int 0, .int 0])), (tp, .inl (cB, 300, .inl g_4))] := hD
  refine lv_aload_n hx hb dX4_append_30 rfl (lv_at hl 1 rfl) ?_
  refine lv_dup hx hb dX4_append_31 rfl ?_
  refine va_get (D := D) (ci := 4) (v := .int 7) (C := RX4) (T := TX4) (N := 11) hx hb hts w_1 hown hK hP 0 rfl rfl 3 (by decide) w_2 (fun _ h9 => h9) rfl dX4_append_32 ?_
  refine lv_iconst (v := 1) hx hb dX4_append_35 (by decide) ?_
  refine sv_iadd (v := 8) hx hb dX4_append_36 (by decide) ?_
  refine va_put (D := D) (ci := 4) (v := .int 8) (ty := .int) (C := RX4) (T := TX4) (N := 11) hx hb hts w_1 tyX4 tyX4_ok nmX4 hown hK hP hD hS 0 rfl rfl 3 (by decide) w_2 (fun _ h9 => h9) rfl (by decide +kernel) rfl rfl (Nat.le_of_ble_eq_true rfl) dX4_append_37 (fun H locs hP hD hS => ?_)
  have hP : va_P D vwCl [(h0, .inr (4, [.ref dr, .int 0, .int (-1), .int 8, .ref tp, .int 0, .int 0, .int 0, .int 0, .int 0, .int 0])), (tp, .inl (cB, 300, .inl g_4))] H := hP
  have hD : va_D A [(h0, .inr (4, [.ref dr, .int 0, .int (-1), .int 8, .ref tp, .int 0, .int 0, .int 0, .int 0, .int 0, .int 0])), (tp, .inl (cB, 300, .inl g_4))] := hD
  refine lv_iinc (v := (-8)) (lv' := [(2, .int (-8)), (0, .ref h0), (1, .int v)]) hx hb dX4_append_40 hl (k := 0) rfl (by decide) (by decide) rfl (fun ls hl => ?_)
  refine lv_goto (tgt := 3) hx hb dX4_append_43 (by decide) ?_
  refine lv_iload_n hx hb dX4_append_3 rfl (lv_at hl 0 rfl) ?_
  refine lv_if_lt (tgt := 46) hx hb dX4_append_4 (by decide) (fun _ => ?_) (fun h => absurd (by decide) h)
  have hP9 := hP.sub (ws' := [(h0, .inr (4, [.ref dr, .int 0, .int (-1), .int 8, .ref tp, .int 0, .int 0, .int 0, .int 0, .int 0, .int 0])), (tp, .inl (cB, 300, .inl g_4))]) [0, 1] rfl
  have hD9 := hD.sub (ws' := [(h0, .inr (4, [.ref dr, .int 0, .int (-1), .int 8, .ref tp, .int 0, .int 0, .int 0, .int 0, .int 0, .int 0])), (tp, .inl (cB, 300, .inl g_4))]) [0, 1] (by decide) rfl
  exact W.vret hx hb hr (fun t ht hW => ⟨⟨g_4, rfl, trivial, by rw [ht]; exact hP9, va_K.moved hW.alike hK, hD9⟩, hS.F ht⟩) hS.2.2 dX4_append_46

set_option maxHeartbeats 4000000 in
set_option maxRecDepth 100000 in
/-- four bytes more, at 8 -/
theorem k_X4_app8 (l : Launch) (D : va_G) (cB cI cJ cZ : ClassId) (sz : Nat) (h0 dr tp : Nat) (f : Nat → Int32) (v : Int32) : Met l yX4_append wsX4_append ({ frames := 0, cells := 0, slots := 0, locals := 0 } : Room) (cPre D (aTy cB cI cJ cZ) [(h0, .inr (4, [.ref dr, .int 0, .int (-1), .int 8, .ref tp, .int 0, .int 0, .int 0, .int 0, .int 0, .int 0])), (tp, .inl (cB, 300, .inl f))] sz [.ref h0, .int v]) (va_Qv (fun (u : Nat → Int32) => True) (cB_ D (aTy cB cI cJ cZ) (va_A [(h0, .inr (4, [.ref dr, .int 0, .int (-1), .int 8, .ref tp, .int 0, .int 0, .int 0, .int 0, .int 0, .int 0])), (tp, .inl (cB, 300, .inl f))] sz) (fun g => [(h0, .inr (4, [.ref dr, .int 0, .int (-1), .int 12, .ref tp, .int 0, .int 0, .int 0, .int 0, .int 0, .int 0])), (tp, .inl (cB, 300, .inl g))])) (va_A [(h0, .inr (4, [.ref dr, .int 0, .int (-1), .int 8, .ref tp, .int 0, .int 0, .int 0, .int 0, .int 0, .int 0])), (tp, .inl (cB, 300, .inl f))] sz)) 0 0 (va_A [(h0, .inr (4, [.ref dr, .int 0, .int (-1), .int 8, .ref tp, .int 0, .int 0, .int 0, .int 0, .int 0, .int 0])), (tp, .inl (cB, 300, .inl f))] sz) := by
  refine Met.ofW (cc := cX4_append) (maxL := 3) (ret := none) (by decide) rfl ?_
  intro p e s m args below meth c s₁ B hml hv
  obtain ⟨rfl, hsz, hP, hK, hD0⟩ := hv
  have hx := B.exec
  have hb := B.bytes
  have hr := B.returns
  have hts := atoms_spec (ws := wsX4_append) B.pre
  have hown : s.vm.findClass RX4 = some m.cls := findClass_of_methodNamed B.named
  have hlocks := B.notSynchronized
  subst hsz
  have hD := hD0.self (sz := s.heap.size)
  generalize hAe : va_A [(h0, .inr (4, [.ref dr, .int 0, .int (-1), .int 8, .ref tp, .int 0, .int 0, .int 0, .int 0, .int 0, .int 0])), (tp, .inl (cB, 300, .inl f))] s.heap.size = A at hD ⊢
  have hA : ∀ q : Nat, s.heap.size ≤ q → A q := fun q h => by rw [← hAe]; exact Or.inr h
  have hS : va_S A s.heap s.heap [] := va_S.rf
  have hP : va_P D vwCl [(h0, .inr (4, [.ref dr, .int 0, .int (-1), .int 8, .ref tp, .int 0, .int 0, .int 0, .int 0, .int 0, .int 0])), (tp, .inl (cB, 300, .inl f))] s.heap := hP
  have w_1 : ∀ w ∈ wsX40, w ∈ wsX4_append := by decide +kernel
  have w_2 := hts (Cond.fieldLink RX4 29 "BlueCoats$Reader" "taped" "I") (by decide +kernel)
  have w_3 := hts (Cond.fieldLink RX4 25 "BlueCoats$Reader" "tape" "[B") (by decide +kernel)
  have hl := lv_entry ([.ref h0, .int v]) (n := 3) (Nat.le_of_ble_eq_true rfl)
  rw [lg_entry_eq]
  generalize (lg_sl ([.ref h0, .int v]) ++ List.replicate (3 - (lg_sl ([.ref h0, .int v])).length) Slot.unset).toArray = ls at hl ⊢
  have hl : lv_has ls 3 [(0, .ref h0), (1, .int v)] := hl
  refine lv_bipush (v := 24) hx hb dX4_append_0 (by decide) ?_
  refine lv_istore_n (lv' := [(2, .int 24), (0, .ref h0), (1, .int v)]) hx hb dX4_append_2 rfl hl (by decide) rfl (fun ls hl => ?_)
  refine lv_iload_n hx hb dX4_append_3 rfl (lv_at hl 0 rfl) ?_
  refine lv_if_lt (tgt := 46) hx hb dX4_append_4 (by decide) (fun h => absurd h (by decide)) (fun _ => ?_)
  refine lv_aload_n hx hb dX4_append_7 rfl (lv_at hl 1 rfl) ?_
  refine va_get (D := D) (ci := 4) (v := .int 8) (C := RX4) (T := TX4) (N := 11) hx hb hts w_1 hown hK hP 0 rfl rfl 3 (by decide) w_2 (fun _ h9 => h9) rfl dX4_append_8 ?_
  refine lv_sipush (v := 300) hx hb dX4_append_11 (by decide) ?_
  refine lv_icmp_ge (tgt := 40) hx hb dX4_append_14 (by decide) (fun h => absurd h (by decide)) (fun _ => ?_)
  refine lv_aload_n hx hb dX4_append_17 rfl (lv_at hl 1 rfl) ?_
  refine va_get (D := D) (ci := 4) (v := .ref tp) (C := RX4) (T := TX4) (N := 11) hx hb hts w_1 hown hK hP 0 rfl rfl 4 (by decide) w_3 (fun _ h9 => h9) rfl dX4_append_18 ?_
  refine lv_aload_n hx hb dX4_append_21 rfl (lv_at hl 1 rfl) ?_
  refine va_get (D := D) (ci := 4) (v := .int 8) (C := RX4) (T := TX4) (N := 11) hx hb hts w_1 hown hK hP 0 rfl rfl 3 (by decide) w_2 (fun _ h9 => h9) rfl dX4_append_22 ?_
  refine lv_iload_n hx hb dX4_append_25 rfl (lv_at hl 2 rfl) ?_
  refine lv_iload_n hx hb dX4_append_26 rfl (lv_at hl 0 rfl) ?_
  refine lv_iushr (v := (v.toUInt32 >>> ((24 : Int32).toUInt32 &&& Int32.toUInt32 31)).toInt32) hx hb dX4_append_27 rfl ?_
  refine lv_i2b (v := ((v.toUInt32 >>> ((24 : Int32).toUInt32 &&& Int32.toUInt32 31)).toInt32).toInt8.toInt32) hx hb dX4_append_28 rfl ?_
  refine sv_bast hx hb hK hP hD hS 1 0 rfl rfl (vp_in_iff.mpr (by decide)) dX4_append_29 (fun g_1 H locs eg_1 hP hD hS => ?_)
  have hP : va_P D vwCl [(h0, .inr (4, [.ref dr, .int 0, .int (-1), .int 8, .ref tp, .int 0, .int 0, .int 0, .int 0, .int 0, .int 0])), (tp, .inl (cB, 300, .inl g_1))] H := hP
  have hD : va_D A [(h0, .inr (4, [.ref dr, .int 0, .int (-1), .int 8, .ref tp, .int 0, .int 0, .int 0, .int 0, .int 0, .int 0])), (tp, .inl (cB, 300, .inl g_1))] := hD
  refine lv_aload_n hx hb dX4_append_30 rfl (lv_at hl 1 rfl) ?_
  refine lv_dup hx hb dX4_append_31 rfl ?_
  refine va_get (D := D) (ci := 4) (v := .int 8) (C := RX4) (T := TX4) (N := 11) hx hb hts w_1 hown hK hP 0 rfl rfl 3 (by decide) w_2 (fun _ h9 => h9) rfl dX4_append_32 ?_
  refine lv_iconst (v := 1) hx hb dX4_append_35 (by decide) ?_
  refine sv_iadd (v := 9) hx hb dX4_append_36 (by decide) ?_
  refine va_put (D := D) (ci := 4) (v := .int 9) (ty := .int) (C := RX4) (T := TX4) (N := 11) hx hb hts w_1 tyX4 tyX4_ok nmX4 hown hK hP hD hS 0 rfl rfl 3 (by decide) w_2 (fun _ h9 => h9) rfl (by decide +kernel) rfl rfl (Nat.le_of_ble_eq_true rfl) dX4_append_37 (fun H locs hP hD hS => ?_)
  have hP : va_P D vwCl [(h0, .inr (4, [.ref dr, .int 0, .int (-1), .int 9, .ref tp, .int 0, .int 0, .int 0, .int 0, .int 0, .int 0])), (tp, .inl (cB, 300, .inl g_1))] H := hP
  have hD : va_D A [(h0, .inr (4, [.ref dr, .int 0, .int (-1), .int 9, .ref tp, .int 0, .int 0, .int 0, .int 0, .int 0, .int 0])), (tp, .inl (cB, 300, .inl g_1))] := hD
  refine lv_iinc (v := 16) (lv' := [(2, .int 16), (0, .ref h0), (1, .int v)]) hx hb dX4_append_40 hl (k := 0) rfl (by decide) (by decide) rfl (fun ls hl => ?_)
  refine lv_goto (tgt := 3) hx hb dX4_append_43 (by decide) ?_
  refine lv_iload_n hx hb dX4_append_3 rfl (lv_at hl 0 rfl) ?_
  refine lv_if_lt (tgt := 46) hx hb dX4_append_4 (by decide) (fun h => absurd h (by decide)) (fun _ => ?_)
  refine lv_aload_n hx hb dX4_append_7 rfl (lv_at hl 1 rfl) ?_
  refine va_get (D := D) (ci := 4) (v := .int 9) (C := RX4) (T := TX4) (N := 11) hx hb hts w_1 hown hK hP 0 rfl rfl 3 (by decide) w_2 (fun _ h9 => h9) rfl dX4_append_8 ?_
  refine lv_sipush (v := 300) hx hb dX4_append_11 (by decide) ?_
  refine lv_icmp_ge (tgt := 40) hx hb dX4_append_14 (by decide) (fun h => absurd h (by decide)) (fun _ => ?_)
  refine lv_aload_n hx hb dX4_append_17 rfl (lv_at hl 1 rfl) ?_
  refine va_get (D := D) (ci := 4) (v := .ref tp) (C := RX4) (T := TX4) (N := 11) hx hb hts w_1 hown hK hP 0 rfl rfl 4 (by decide) w_3 (fun _ h9 => h9) rfl dX4_append_18 ?_
  refine lv_aload_n hx hb dX4_append_21 rfl (lv_at hl 1 rfl) ?_
  refine va_get (D := D) (ci := 4) (v := .int 9) (C := RX4) (T := TX4) (N := 11) hx hb hts w_1 hown hK hP 0 rfl rfl 3 (by decide) w_2 (fun _ h9 => h9) rfl dX4_append_22 ?_
  refine lv_iload_n hx hb dX4_append_25 rfl (lv_at hl 2 rfl) ?_
  refine lv_iload_n hx hb dX4_append_26 rfl (lv_at hl 0 rfl) ?_
  refine lv_iushr (v := (v.toUInt32 >>> ((16 : Int32).toUInt32 &&& Int32.toUInt32 31)).toInt32) hx hb dX4_append_27 rfl ?_
  refine lv_i2b (v := ((v.toUInt32 >>> ((16 : Int32).toUInt32 &&& Int32.toUInt32 31)).toInt32).toInt8.toInt32) hx hb dX4_append_28 rfl ?_
  refine sv_bast hx hb hK hP hD hS 1 0 rfl rfl (vp_in_iff.mpr (by decide)) dX4_append_29 (fun g_2 H locs eg_2 hP hD hS => ?_)
  have hP : va_P D vwCl [(h0, .inr (4, [.ref dr, .int 0, .int (-1), .int 9, .ref tp, .int 0, .int 0, .int 0, .int 0, .int 0, .int 0])), (tp, .inl (cB, 300, .inl g_2))] H := hP
  have hD : va_D A [(h0, .inr (4, [.ref dr, .int 0, .int (-1), .int 9, .ref tp, .int 0, .int 0, .int 0, .int 0, .int 0, .int 0])), (tp, .inl (cB, 300, .inl g_2))] := hD
  refine lv_aload_n hx hb dX4_append_30 rfl (lv_at hl 1 rfl) ?_
  refine lv_dup hx hb dX4_append_31 rfl ?_
  refine va_get (D := D) (ci := 4) (v := .int 9) (C := RX4) (T := TX4) (N := 11) hx hb hts w_1 hown hK hP 0 rfl rfl 3 (by decide) w_2 (fun _ h9 => h9) rfl dX4_append_32 ?_
  refine lv_iconst (v := 1) hx hb dX4_append_35 (by decide) ?_
  refine sv_iadd (v := 10) hx hb dX4_append_36 (by decide) ?_
  refine va_put (D := D) (ci := 4) (v := .int 10) (ty := .int) (C := RX4) (T := TX4) (N := 11) hx hb hts w_1 tyX4 tyX4_ok nmX4 hown hK hP hD hS 0 rfl rfl 3 (by decide) w_2 (fun _ h9 => h9) rfl (by decide +kernel) rfl rfl (Nat.le_of_ble_eq_true rfl) dX4_append_37 (fun H locs hP hD hS => ?_)
  have hP : va_P D vwCl [(h0, .inr (4, [.ref dr, .int 0, .int (-1), .int 10, .ref tp, .int 0, .int 0, .int 0, .int 0, .int 0, .int 0])), (tp, .inl (cB, 300, .inl g_2))] H := hP
  have hD : va_D A [(h0, .inr (4, [.ref dr, .int 0, .int (-1), .int 10, .ref tp, .int 0, .int 0, .int 0, .int 0, .int 0, .int 0])), (tp, .inl (cB, 300, .inl g_2))] := hD
  refine lv_iinc (v := 8) (lv' := [(2, .int 8), (0, .ref h0), (1, .int v)]) hx hb dX4_append_40 hl (k := 0) rfl (by decide) (by decide) rfl (fun ls hl => ?_)
  refine lv_goto (tgt := 3) hx hb dX4_append_43 (by decide) ?_
  refine lv_iload_n hx hb dX4_append_3 rfl (lv_at hl 0 rfl) ?_
  refine lv_if_lt (tgt := 46) hx hb dX4_append_4 (by decide) (fun h => absurd h (by decide)) (fun _ => ?_)
  refine lv_aload_n hx hb dX4_append_7 rfl (lv_at hl 1 rfl) ?_
  refine va_get (D := D) (ci := 4) (v := .int 10) (C := RX4) (T := TX4) (N := 11) hx hb hts w_1 hown hK hP 0 rfl rfl 3 (by decide) w_2 (fun _ h9 => h9) rfl dX4_append_8 ?_
  refine lv_sipush (v := 300) hx hb dX4_append_11 (by decide) ?_
  refine lv_icmp_ge (tgt := 40) hx hb dX4_append_14 (by decide) (fun h => absurd h (by decide)) (fun _ => ?_)
  refine lv_aload_n hx hb dX4_append_17 rfl (lv_at hl 1 rfl) ?_
  refine va_get (D := D) (ci := 4) (v := .ref tp) (C := RX4) (T := TX4) (N := 11) hx hb hts w_1 hown hK hP 0 rfl rfl 4 (by decide) w_3 (fun _ h9 => h9) rfl dX4_append_18 ?_
  refine lv_aload_n hx hb dX4_append_21 rfl (lv_at hl 1 rfl) ?_
  refine va_get (D := D) (ci := 4) (v := .int 10) (C := RX4) (T := TX4) (N := 11) hx hb hts w_1 hown hK hP 0 rfl rfl 3 (by decide) w_2 (fun _ h9 => h9) rfl dX4_append_22 ?_
  refine lv_iload_n hx hb dX4_append_25 rfl (lv_at hl 2 rfl) ?_
  refine lv_iload_n hx hb dX4_append_26 rfl (lv_at hl 0 rfl) ?_
  refine lv_iushr (v := (v.toUInt32 >>> ((8 : Int32).toUInt32 &&& Int32.toUInt32 31)).toInt32) hx hb dX4_append_27 rfl ?_
  refine lv_i2b (v := ((v.toUInt32 >>> ((8 : Int32).toUInt32 &&& Int32.toUInt32 31)).toInt32).toInt8.toInt32) hx hb dX4_append_28 rfl ?_
  refine sv_bast hx hb hK hP hD hS 1 0 rfl rfl (vp_in_iff.mpr (by decide)) dX4_append_29 (fun g_3 H locs eg_3 hP hD hS => ?_)
  have hP : va_P D vwCl [(h0, .inr (4, [.ref dr, .int 0, .int (-1), .int 10, .ref tp, .int 0, .int 0, .int 0, .int 0, .int 0, .int 0])), (tp, .inl (cB, 300, .inl g_3))] H := hP
  have hD : va_D A [(h0, .inr (4, [.ref dr, .int 0, .int (-1), .int 10, .ref tp, .int 0, .int 0, .int 0, .int 0, .int 0, .int 0])), (tp, .inl (cB, 300, .inl g_3))] := hD
  refine lv_aload_n hx hb dX4_append_30 rfl (lv_at hl 1 rfl) ?_
  refine lv_dup hx hb dX4_append_31 rfl ?_
  refine va_get (D := D) (ci := 4) (v := .int 10) (C := RX4) (T := TX4) (N := 11) hx hb hts w_1 hown hK hP 0 rfl rfl 3 (by decide) w_2 (fun _ h9 => h9) rfl dX4_append_32 ?_
  refine lv_iconst (v := 1) hx hb dX4_append_35 (by decide) ?_
  refine sv_iadd (v := 11) hx hb dX4_append_36 (by decide) ?_
  refine va_put (D := D) (ci := 4) (v := .int 11) (ty := .int) (C := RX4) (T := TX4) (N := 11) hx hb hts w_1 tyX4 tyX4_ok nmX4 hown hK hP hD hS 0 rfl rfl 3 (by decide) w_2 (fun _ h9 => h9) rfl (by decide +kernel) rfl rfl (Nat.le_of_ble_eq_true rfl) dX4_append_37 (fun H locs hP hD hS => ?_)
  have hP : va_P D vwCl [(h0, .inr (4, [.ref dr, .int 0, .int (-1), .int 11, .ref tp, .int 0, .int 0, .int 0, .int 0, .int 0, .int 0])), (tp, .inl (cB, 300, .inl g_3))] H := hP
  have hD : va_D A [(h0, .inr (4, [.ref dr, .int 0, .int (-1), .int 11, .ref tp, .int 0, .int 0, .int 0, .int 0, .int 0, .int 0])), (tp, .inl (cB, 300, .inl g_3))] := hD
  refine lv_iinc (v := 0) (lv' := [(2, .int 0), (0, .ref h0), (1, .int v)]) hx hb dX4_append_40 hl (k := 0) rfl (by decide) (by decide) rfl (fun ls hl => ?_)
  refine lv_goto (tgt := 3) hx hb dX4_append_43 (by decide) ?_
  refine lv_iload_n hx hb dX4_append_3 rfl (lv_at hl 0 rfl) ?_
  refine lv_if_lt (tgt := 46) hx hb dX4_append_4 (by decide) (fun h => absurd h (by decide)) (fun _ => ?_)
  refine lv_aload_n hx hb dX4_append_7 rfl (lv_at hl 1 rfl) ?_
  refine va_get (D := D) (ci := 4) (v := .int 11) (C := RX4) (T := TX4) (N := 11) hx hb hts w_1 hown hK hP 0 rfl rfl 3 (by decide) w_2 (fun _ h9 => h9) rfl dX4_append_8 ?_
  refine lv_sipush (v := 300) hx hb dX4_append_11 (by decide) ?_
  refine lv_icmp_ge (tgt := 40) hx hb dX4_append_14 (by decide) (fun h => absurd h (by decide)) (fun _ => ?_)
  refine lv_aload_n hx hb dX4_append_17 rfl (lv_at hl 1 rfl) ?_
  refine va_get (D := D) (ci := 4) (v := .ref tp) (C := RX4) (T := TX4) (N := 11) hx hb hts w_1 hown hK hP 0 rfl rfl 4 (by decide) w_3 (fun _ h9 => h9) rfl dX4_append_18 ?_
  refine lv_aload_n hx hb dX4_append_21 rfl (lv_at hl 1 rfl) ?_
  refine va_get (D := D) (ci := 4) (v := .int 11) (C := RX4) (T := TX4) (N := 11) hx hb hts w_1 hown hK hP 0 rfl rfl 3 (by decide) w_2 (fun _ h9 => h9) rfl dX4_append_22 ?_
  refine lv_iload_n hx hb dX4_append_25 rfl (lv_at hl 2 rfl) ?_
  refine lv_iload_n hx hb dX4_append_26 rfl (lv_at hl 0 rfl) ?_
  refine lv_iushr (v := (v.toUInt32 >>> ((0 : Int32).toUInt32 &&& Int32.toUInt32 31)).toInt32) hx hb dX4_append_27 rfl ?_
  refine lv_i2b (v := ((v.toUInt32 >>> ((0 : Int32).toUInt32 &&& Int32.toUInt32 31)).toInt32).toInt8.toInt32) hx hb dX4_append_28 rfl ?_
  refine sv_bast hx hb hK hP hD hS 1 0 rfl rfl (vp_in_iff.mpr (by decide)) dX4_append_29 (fun g_4 H locs eg_4 hP hD hS => ?_)
  have hP : va_P D vwCl [(h0, .inr (4, [.ref dr, .int 0, .int (-1), .int 11, .ref tp, .int 0, .int 0, .int 0, .int 0, .int 0, .int 0])), (tp, .inl (cB, 300, .inl g_4))] H := hP
  have hD : va_D A [(h0, .inr (4, [.ref dr, .int 0, .int (-1), .int 11, .ref tp, .int 0, .int 0, .int 0, .int 0, .int 0, .int 0])), (tp, .inl (cB, 300, .inl g_4))] := hD
  refine lv_aload_n hx hb dX4_append_30 rfl (lv_at hl 1 rfl) ?_
  refine lv_dup hx hb dX4_append_31 rfl ?_
  refine va_get (D := D) (ci := 4) (v := .int 11) (C := RX4) (T := TX4) (N := 11) hx hb hts w_1 hown hK hP 0 rfl rfl 3 (by decide) w_2 (fun _ h9 => h9) rfl dX4_append_32 ?_
  refine lv_iconst (v := 1) hx hb dX4_append_35 (by decide) ?_
  refine sv_iadd (v := 12) hx hb dX4_append_36 (by decide) ?_
  refine va_put (D := D) (ci := 4) (v := .int 12) (ty := .int) (C := RX4) (T := TX4) (N := 11) hx hb hts w_1 tyX4 tyX4_ok nmX4 hown hK hP hD hS 0 rfl rfl 3 (by decide) w_2 (fun _ h9 => h9) rfl (by decide +kernel) rfl rfl (Nat.le_of_ble_eq_true rfl) dX4_append_37 (fun H locs hP hD hS => ?_)
  have hP : va_P D vwCl [(h0, .inr (4, [.ref dr, .int 0, .int (-1), .int 12, .ref tp, .int 0, .int 0, .int 0, .int 0, .int 0, .int 0])), (tp, .inl (cB, 300, .inl g_4))] H := hP
  have hD : va_D A [(h0, .inr (4, [.ref dr, .int 0, .int (-1), .int 12, .ref tp, .int 0, .int 0, .int 0, .int 0, .int 0, .int 0])), (tp, .inl (cB, 300, .inl g_4))] := hD
  refine lv_iinc (v := (-8)) (lv' := [(2, .int (-8)), (0, .ref h0), (1, .int v)]) hx hb dX4_append_40 hl (k := 0) rfl (by decide) (by decide) rfl (fun ls hl => ?_)
  refine lv_goto (tgt := 3) hx hb dX4_append_43 (by decide) ?_
  refine lv_iload_n hx hb dX4_append_3 rfl (lv_at hl 0 rfl) ?_
  refine lv_if_lt (tgt := 46) hx hb dX4_append_4 (by decide) (fun _ => ?_) (fun h => absurd (by decide) h)
  have hP9 := hP.sub (ws' := [(h0, .inr (4, [.ref dr, .int 0, .int (-1), .int 12, .ref tp, .int 0, .int 0, .int 0, .int 0, .int 0, .int 0])), (tp, .inl (cB, 300, .inl g_4))]) [0, 1] rfl
  have hD9 := hD.sub (ws' := [(h0, .inr (4, [.ref dr, .int 0, .int (-1), .int 12, .ref tp, .int 0, .int 0, .int 0, .int 0, .int 0, .int 0])), (tp, .inl (cB, 300, .inl g_4))]) [0, 1] (by decide) rfl
  exact W.vret hx hb hr (fun t ht hW => ⟨⟨g_4, rfl, trivial, by rw [ht]; exact hP9, va_K.moved hW.alike hK, hD9⟩, hS.F ht⟩) hS.2.2 dX4_append_46

set_option maxHeartbeats 4000000 in
set_option maxRecDepth 100000 in
/-- four bytes more, at 12 -/
theorem k_X4_app12 (l : Launch) (D : va_G) (cB cI cJ cZ : ClassId) (sz : Nat) (h0 dr tp : Nat) (f : Nat → Int32) (v : Int32) : Met l yX4_append wsX4_append ({ frames := 0, cells := 0, slots := 0, locals := 0 } : Room) (cPre D (aTy cB cI cJ cZ) [(h0, .inr (4, [.ref dr, .int 0, .int (-1), .int 12, .ref tp, .int 0, .int 0, .int 0, .int 0, .int 0, .int 0])), (tp, .inl (cB, 300, .inl f))] sz [.ref h0, .int v]) (va_Qv (fun (u : Nat → Int32) => True) (cB_ D (aTy cB cI cJ cZ) (va_A [(h0, .inr (4, [.ref dr, .int 0, .int (-1), .int 12, .ref tp, .int 0, .int 0, .int 0, .int 0, .int 0, .int 0])), (tp, .inl (cB, 300, .inl f))] sz) (fun g => [(h0, .inr (4, [.ref dr, .int 0, .int (-1), .int 16, .ref tp, .int 0, .int 0, .int 0, .int 0, .int 0, .int 0])), (tp, .inl (cB, 300, .inl g))])) (va_A [(h0, .inr (4, [.ref dr, .int 0, .int (-1), .int 12, .ref tp, .int 0, .int 0, .int 0, .int 0, .int 0, .int 0])), (tp, .inl (cB, 300, .inl f))] sz)) 0 0 (va_A [(h0, .inr (4, [.ref dr, .int 0, .int (-1), .int 12, .ref tp, .int 0, .int 0, .int 0, .int 0, .int 0, .int 0])), (tp, .inl (cB, 300, .inl f))] sz) := by
  refine Met.ofW (cc := cX4_append) (maxL := 3) (ret := none) (by decide) rfl ?_
  intro p e s m args below meth c s₁ B hml hv
  obtain ⟨rfl, hsz, hP, hK, hD0⟩ := hv
  have hx := B.exec
  have hb := B.bytes
  have hr := B.returns
  have hts := atoms_spec (ws := wsX4_append) B.pre
  have hown : s.vm.findClass RX4 = some m.cls := findClass_of_methodNamed B.named
  have hlocks := B.notSynchronized
  subst hsz
  have hD := hD0.self (sz := s.heap.size)
  generalize hAe : va_A [(h0, .inr (4, [.ref dr, .int 0, .int (-1), .int 12, .ref tp, .int 0, .int 0, .int 0, .int 0, .int 0, .int 0])), (tp, .inl (cB, 300, .inl f))] s.heap.size = A at hD ⊢
  have hA : ∀ q : Nat, s.heap.size ≤ q → A q := fun q h => by rw [← hAe]; exact Or.inr h
  have hS : va_S A s.heap s.heap [] := va_S.rf
  have hP : va_P D vwCl [(h0, .inr (4, [.ref dr, .int 0, .int (-1), .int 12, .ref tp, .int 0, .int 0, .int 0, .int 0, .int 0, .int 0])), (tp, .inl (cB, 300, .inl f))] s.heap := hP
  have w_1 : ∀ w ∈ wsX40, w ∈ wsX4_append := by decide +kernel
  have w_2 := hts (Cond.fieldLink RX4 29 "BlueCoats$Reader" "taped" "I") (by decide +kernel)
  have w_3 := hts (Cond.fieldLink RX4 25 "BlueCoats$Reader" "tape" "[B") (by decide +kernel)
  have hl := lv_entry ([.ref h0, .int v]) (n := 3) (Nat.le_of_ble_eq_true rfl)
  rw [lg_entry_eq]
  generalize (lg_sl ([.ref h0, .int v]) ++ List.replicate (3 - (lg_sl ([.ref h0, .int v])).length) Slot.unset).toArray = ls at hl ⊢
  have hl : lv_has ls 3 [(0, .ref h0), (1, .int v)] := hl
  refine lv_bipush (v := 24) hx hb dX4_append_0 (by decide) ?_
  refine lv_istore_n (lv' := [(2, .int 24), (0, .ref h0), (1, .int v)]) hx hb dX4_append_2 rfl hl (by decide) rfl (fun ls hl => ?_)
  refine lv_iload_n hx hb dX4_append_3 rfl (lv_at hl 0 rfl) ?_
  refine lv_if_lt (tgt := 46) hx hb dX4_append_4 (by decide) (fun h => absurd h (by decide)) (fun _ => ?_)
  refine lv_aload_n hx hb dX4_append_7 rfl (lv_at hl 1 rfl) ?_
  refine va_get (D := D) (ci := 4) (v := .int 12) (C := RX4) (T := TX4) (N := 11) hx hb hts w_1 hown hK hP 0 rfl rfl 3 (by decide) w_2 (fun _ h9 => h9) rfl dX4_append_8 ?_
  refine lv_sipush (v := 300) hx hb dX4_append_11 (by decide) ?_
  refine lv_icmp_ge (tgt := 40) hx hb dX4_append_14 (by decide) (fun h => absurd h (by decide)) (fun _ => ?_)
  refine lv_aload_n hx hb dX4_append_17 rfl (lv_at hl 1 rfl) ?_
  refine va_get (D := D) (ci := 4) (v := .ref tp) (C := RX4) (T := TX4) (N := 11) hx hb hts w_1 hown hK hP 0 rfl rfl 4 (by decide) w_3 (fun _ h9 => h9) rfl dX4_append_18 ?_
  refine lv_aload_n hx hb dX4_append_21 rfl (lv_at hl 1 rfl) ?_
  refine va_get (D := D) (ci := 4) (v := .int 12) (C := RX4) (T := TX4) (N := 11) hx hb hts w_1 hown hK hP 0 rfl rfl 3 (by decide) w_2 (fun _ h9 => h9) rfl dX4_append_22 ?_
  refine lv_iload_n hx hb dX4_append_25 rfl (lv_at hl 2 rfl) ?_
  refine lv_iload_n hx hb dX4_append_26 rfl (lv_at hl 0 rfl) ?_
  refine lv_iushr (v := (v.toUInt32 >>> ((24 : Int32).toUInt32 &&& Int32.toUInt32 31)).toInt32) hx hb dX4_append_27 rfl ?_
  refine lv_i2b (v := ((v.toUInt32 >>> ((24 : Int32).toUInt32 &&& Int32.toUInt32 31)).toInt32).toInt8.toInt32) hx hb dX4_append_28 rfl ?_
  refine sv_bast hx hb hK hP hD hS 1 0 rfl rfl (vp_in_iff.mpr (by decide)) dX4_append_29 (fun g_1 H locs eg_1 hP hD hS => ?_)
  have hP : va_P D vwCl [(h0, .inr (4, [.ref dr, .int 0, .int (-1), .int 12, .ref tp, .int 0, .int 0, .int 0, .int 0, .int 0, .int 0])), (tp, .inl (cB, 300, .inl g_1))] H := hP
  have hD : va_D A [(h0, .inr (4, [.ref dr, .int 0, .int (-1), .int 12, .ref tp, .int 0, .int 0, .int 0, .int 0, .int 0, .int 0])), (tp, .inl (cB, 300, .inl g_1))] := hD
  refine lv_aload_n hx hb dX4_append_30 rfl (lv_at hl 1 rfl) ?_
  refine lv_dup hx hb dX4_append_31 rfl ?_
  refine va_get (D := D) (ci := 4) (v := .int 12) (C := RX4) (T := TX4) (N := 11) hx hb hts w_1 hown hK hP 0 rfl rfl 3 (by decide) w_2 (fun _ h9 => h9) rfl dX4_append_32 ?_
  refine lv_iconst (v := 1) hx hb dX4_append_35 (by decide) ?_
  refine sv_iadd (v := 13) hx hb dX4_append_36 (by decide) ?_
  refine va_put (D := D) (ci := 4) (v := .int 13) (ty := .int) (C := RX4) (T := TX4) (N := 11) hx hb hts w_1 tyX4 tyX4_ok nmX4 hown hK hP hD hS 0 rfl rfl 3 (by decide) w_2 (fun _ h9 => h9) rfl (by decide +kernel) rfl rfl (Nat.le_of_ble_eq_true rfl) dX4_append_37 (fun H locs hP hD hS => ?_)
  have hP : va_P D vwCl [(h0, .inr (4, [.ref dr, .int 0, .int (-1), .int 13, .ref tp, .int 0, .int 0, .int 0, .int 0, .int 0, .int 0])), (tp, .inl (cB, 300, .inl g_1))] H := hP
  have hD : va_D A [(h0, .inr (4, [.ref dr, .int 0, .int (-1), .int 13, .ref tp, .int 0, .int 0, .int 0, .int 0, .int 0, .int 0])), (tp, .inl (cB, 300, .inl g_1))] := hD
  refine lv_iinc (v := 16) (lv' := [(2, .int 16), (0, .ref h0), (1, .int v)]) hx hb dX4_append_40 hl (k := 0) rfl (by decide) (by decide) rfl (fun ls hl => ?_)
  refine lv_goto (tgt := 3) hx hb dX4_append_43 (by decide) ?_
  refine lv_iload_n hx hb dX4_append_3 rfl (lv_at hl 0 rfl) ?_
  refine lv_if_lt (tgt := 46) hx hb dX4_append_4 (by decide) (fun h => absurd h (by decide)) (fun _ => ?_)
  refine lv_aload_n hx hb dX4_append_7 rfl (lv_at hl 1 rfl) ?_
  refine va_get (D := D) (ci := 4) (v := .int 13) (C := RX4) (T := TX4) (N := 11) hx hb hts w_1 hown hK hP 0 rfl rfl 3 (by decide) w_2 (fun _ h9 => h9) rfl dX4_append_8 ?_
  refine lv_sipush (v := 300) hx hb dX4_append_11 (by decide) ?_
  refine lv_icmp_ge (tgt := 40) hx hb dX4_append_14 (by decide) (fun h => absurd h (by decide)) (fun _ => ?_)
  refine lv_aload_n hx hb dX4_append_17 rfl (lv_at hl 1 rfl) ?_
  refine va_get (D := D) (ci := 4) (v := .ref tp) (C := RX4) (T := TX4) (N := 11) hx hb hts w_1 hown hK hP 0 rfl rfl 4 (by decide) w_3 (fun _ h9 => h9) rfl dX4_append_18 ?_
  refine lv_aload_n hx hb dX4_append_21 rfl (lv_at hl 1 rfl) ?_
  refine va_get (D := D) (ci := 4) (v := .int 13) (C := RX4) (T := TX4) (N := 11) hx hb hts w_1 hown hK hP 0 rfl rfl 3 (by decide) w_2 (fun _ h9 => h9) rfl dX4_append_22 ?_
  refine lv_iload_n hx hb dX4_append_25 rfl (lv_at hl 2 rfl) ?_
  refine lv_iload_n hx hb dX4_append_26 rfl (lv_at hl 0 rfl) ?_
  refine lv_iushr (v := (v.toUInt32 >>> ((16 : Int32).toUInt32 &&& Int32.toUInt32 31)).toInt32) hx hb dX4_append_27 rfl ?_
  refine lv_i2b (v := ((v.toUInt32 >>> ((16 : Int32).toUInt32 &&& Int32.toUInt32 31)).toInt32).toInt8.toInt32) hx hb dX4_append_28 rfl ?_
  refine sv_bast hx hb hK hP hD hS 1 0 rfl rfl (vp_in_iff.mpr (by decide)) dX4_append_29 (fun g_2 H locs eg_2 hP hD hS => ?_)
  have hP : va_P D vwCl [(h0, .inr (4, [.ref dr, .int 0, .int (-1), .int 13, .ref tp, .int 0, .int 0, .int 0, .int 0, .int 0, .int 0])), (tp, .inl (cB, 300, .inl g_2))] H := hP
  have hD : va_D A [(h0, .inr (4, [.ref dr, .int 0, .int (-1), .int 13, .ref tp, .int 0, .int 0, .int 0, .int 0, .int 0, .int 0])), (tp, .inl (cB, 300, .inl g_2))] := hD
  refine lv_aload_n hx hb dX4_append_30 rfl (lv_at hl 1 rfl) ?_
  refine lv_dup hx hb dX4_append_31 rfl ?_
  refine va_get (D := D) (ci := 4) (v := .int 13) (C := RX4) (T := TX4) (N := 11) hx hb hts w_1 hown hK hP 0 rfl rfl 3 (by decide) w_2 (fun _ h9 => h9) rfl dX4_append_32 ?_
  refine lv_iconst (v := 1) hx hb dX4_append_35 (by decide) ?_
  refine sv_iadd (v := 14) hx hb dX4_append_36 (by decide) ?_
  refine va_put (D := D) (ci := 4) (v := .int 14) (ty := .int) (C := RX4) (T := TX4) (N := 11) hx hb hts w_1 tyX4 tyX4_ok nmX4 hown hK hP hD hS 0 rfl rfl 3 (by decide) w_2 (fun _ h9 => h9) rfl (by decide +kernel) rfl rfl (Nat.le_of_ble_eq_true rfl) dX4_append_37 (fun H locs hP hD hS => ?_)
  have hP : va_P D vwCl [(h0, .inr (4, [.ref dr, .int 0, .int (-1), .int 14, .ref tp, .int 0, .int 0, .int 0, .int 0, .int 0, .int 0])), (tp, .inl (cB, 300, .inl g_2))] H := hP
  have hD : va_D A [(h0, .inr (4, [.ref dr, .int 0, .int (-1), .int 14, .ref tp, .int 0, .int 0, .int 0, .int 0, .int 0, .int 0])), (tp, .inl (cB, 300, .inl g_2))] := hD
  refine lv_iinc (v := 8) (lv' := [(2, .int 8), (0, .ref h0), (1, .int v)]) hx hb dX4_append_40 hl (k := 0) rfl (by decide) (by decide) rfl (fun ls hl => ?_)
  refine lv_goto (tgt := 3) hx hb dX4_append_43 (by decide) ?_
  refine lv_iload_n hx hb dX4_append_3 rfl (lv_at hl 0 rfl) ?_
  refine lv_if_lt (tgt := 46) hx hb dX4_append_4 (by decide) (fun h => absurd h (by decide)) (fun _ => ?_)
  refine lv_aload_n hx hb dX4_append_7 rfl (lv_at hl 1 rfl) ?_
  refine va_get (D := D) (ci := 4) (v := .int 14) (C := RX4) (T := TX4) (N := 11) hx hb hts w_1 hown hK hP 0 rfl rfl 3 (by decide) w_2 (fun _ h9 => h9) rfl dX4_append_8 ?_
  refine lv_sipush (v := 300) hx hb dX4_append_11 (by decide) ?_
  refine lv_icmp_ge (tgt := 40) hx hb dX4_append_14 (by decide) (fun h => absurd h (by decide)) (fun _ => ?_)
  refine lv_aload_n hx hb dX4_append_17 rfl (lv_at hl 1 rfl) ?_
  refine va_get (D := D) (ci := 4) (v := .ref tp) (C := RX4) (T := TX4) (N := 11) hx hb hts w_1 hown hK hP 0 rfl rfl 4 (by decide) w_3 (fun _ h9 => h9) rfl dX4_append_18 ?_
  refine lv_aload_n hx hb dX4_append_21 rfl (lv_at hl 1 rfl) ?_
  refine va_get (D := D) (ci := 4) (v := .int 14) (C := RX4) (T := TX4) (N := 11) hx hb hts w_1 hown hK hP 0 rfl rfl 3 (by decide) w_2 (fun _ h9 => h9) rfl dX4_append_22 ?_
  refine lv_iload_n hx hb dX4_append_25 rfl (lv_at hl 2 rfl) ?_
  refine lv_iload_n hx hb dX4_append_26 rfl (lv_at hl 0 rfl) ?_
  refine lv_iushr (v := (v.toUInt32 >>> ((8 : Int32).toUInt32 &&& Int32.toUInt32 31)).toInt32) hx hb dX4_append_27 rfl ?_
  refine lv_i2b (v := ((v.toUInt32 >>> ((8 : Int32).toUInt32 &&& Int32.toUInt32 31)).toInt32).toInt8.toInt32) hx hb dX4_append_28 rfl ?_
  refine sv_bast hx hb hK hP hD hS 1 0 rfl rfl (vp_in_iff.mpr (by decide)) dX4_append_29 (fun g_3 H locs eg_3 hP hD hS => ?_)
  have hP : va_P D vwCl [(h0, .inr (4, [.ref dr, .int 0, .int (-1), .int 14, .ref tp, .int 0, .int 0, .int 0, .int 0, .int 0, .int 0])), (tp, .inl (cB, 300, .inl g_3))] H := hP
  have hD : va_D A [(h0, .inr (4, [.ref dr, .int 0, .int (-1), .int 14, .ref tp, .int 0, .int 0, .int 0, .int 0, .int 0, .int 0])), (tp, .inl (cB, 300, .inl g_3))] := hD
  refine lv_aload_n hx hb dX4_append_30 rfl (lv_at hl 1 rfl) ?_
  refine lv_dup hx hb dX4_append_31 rfl ?_
  refine va_get (D := D) (ci := 4) (v := .int 14) (C := RX4) (T := TX4) (N := 11) hx hb hts w_1 hown hK hP 0 rfl rfl 3 (by decide) w_2 (fun _ h9 => h9) rfl dX4_append_32 ?_
  refine lv_iconst (v := 1) hx hb dX4_append_35 (by decide) ?_
  refine sv_iadd (v := 15) hx hb dX4_append_36 (by decide) ?_
  refine va_put (D := D) (ci := 4) (v := .int 15) (ty := .int) (C := RX4) (T := TX4) (N := 11) hx hb hts w_1 tyX4 tyX4_ok nmX4 hown hK hP hD hS 0 rfl rfl 3 (by decide) w_2 (fun _ h9 => h9) rfl (by decide +kernel) rfl rfl (Nat.le_of_ble_eq_true rfl) dX4_append_37 (fun H locs hP hD hS => ?_)
  have hP : va_P D vwCl [(h0, .inr (4, [.ref dr, .int 0, .int (-1), .int 15, .ref tp, .int 0, .int 0, .int 0, .int 0, .int 0, .int 0])), (tp, .inl (cB, 300, .inl g_3))] H := hP
  have hD : va_D A [(h0, .inr (4, [.ref dr, .int 0, .int (-1), .int 15, .ref tp, .int 0, .int 0, .int 0, .int 0, .int 0, .int 0])), (tp, .inl (cB, 300, .inl g_3))] := hD
  refine lv_iinc (v := 0) (lv' := [(2, .int 0), (0, .ref h0), (1, .int v)]) hx hb dX4_append_40 hl (k := 0) rfl (by decide) (by decide) rfl (fun ls hl => ?_)
  refine lv_goto (tgt := 3) hx hb dX4_append_43 (by decide) ?_
  refine lv_iload_n hx hb dX4_append_3 rfl (lv_at hl 0 rfl) ?_
  refine lv_if_lt (tgt := 46) hx hb dX4_append_4 (by decide) (fun h => absurd h (by decide)) (fun _ => ?_)
  refine lv_aload_n hx hb dX4_append_7 rfl (lv_at hl 1 rfl) ?_
  refine va_get (D := D) (ci := 4) (v := .int 15) (C := RX4) (T := TX4) (N := 11) hx hb hts w_1 hown hK hP 0 rfl rfl 3 (by decide) w_2 (fun _ h9 => h9) rfl dX4_append_8 ?_
  refine lv_sipush (v := 300) hx hb dX4_append_11 (by decide) ?_
  refine lv_icmp_ge (tgt := 40) hx hb dX4_append_14 (by decide) (fun h => absurd h (by decide)) (fun _ => ?_)
  refine lv_aload_n hx hb dX4_append_17 rfl (lv_at hl 1 rfl) ?_
  refine va_get (D := D) (ci := 4) (v := .ref tp) (C := RX4) (T := TX4) (N := 11) hx hb hts w_1 hown hK hP 0 rfl rfl 4 (by decide) w_3 (fun _ h9 => h9) rfl dX4_append_18 ?_
  refine lv_aload_n hx hb dX4_append_21 rfl (lv_at hl 1 rfl) ?_
  refine va_get (D := D) (ci := 4) (v := .int 15) (C := RX4) (T := TX4) (N := 11) hx hb hts w_1 hown hK hP 0 rfl rfl 3 (by decide) w_2 (fun _ h9 => h9) rfl dX4_append_22 ?_
  refine lv_iload_n hx hb dX4_append_25 rfl (lv_at hl 2 rfl) ?_
  refine lv_iload_n hx hb dX4_append_26 rfl (lv_at hl 0 rfl) ?_
  refine lv_iushr (v := (v.toUInt32 >>> ((0 : Int32).toUInt32 &&& Int32.toUInt32 31)).toInt32) hx hb dX4_append_27 rfl ?_
  refine lv_i2b (v := ((v.toUInt32 >>> ((0 : Int32).toUInt32 &&& Int32.toUInt32 31)).toInt32).toInt8.toInt32) hx hb dX4_append_28 rfl ?_
  refine sv_bast hx hb hK hP hD hS 1 0 rfl rfl (vp_in_iff.mpr (by decide)) dX4_append_29 (fun g_4 H locs eg_4 hP hD hS => ?_)
  have hP : va_P D vwCl [(h0, .inr (4, [.ref dr, .int 0, .int (-1), .int 15, .ref tp, .int 0, .int 0, .int 0, .int 0, .int 0, .int 0])), (tp, .inl (cB, 300, .inl g_4))] H := hP
  have hD : va_D A [(h0, .inr (4, [.ref dr, .int 0, .int (-1), .int 15, .ref tp, .int 0, .int 0, .int 0, .int 0, .int 0, .int 0])), (tp, .inl (cB, 300, .inl g_4))] := hD
  refine lv_aload_n hx hb dX4_append_30 rfl (lv_at hl 1 rfl) ?_
  refine lv_dup hx hb dX4_append_31 rfl ?_
  refine va_get (D := D) (ci := 4) (v := .int 15) (C := RX4) (T := TX4) (N := 11) hx hb hts w_1 hown hK hP 0 rfl rfl 3 (by decide) w_2 (fun _ h9 => h9) rfl dX4_append_32 ?_
  refine lv_iconst (v := 1) hx hb dX4_append_35 (by decide) ?_
  refine sv_iadd (v := 16) hx hb dX4_append_36 (by decide) ?_
  refine va_put (D := D) (ci := 4) (v := .int 16) (ty := .int) (C := RX4) (T := TX4) (N := 11) hx hb hts w_1 tyX4 tyX4_ok nmX4 hown hK hP hD hS 0 rfl rfl 3 (by decide) w_2 (fun _ h9 => h9) rfl (by decide +kernel) rfl rfl (Nat.le_of_ble_eq_true rfl) dX4_append_37 (fun H locs hP hD hS => ?_)
  have hP : va_P D vwCl [(h0, .inr (4, [.ref dr, .int 0, .int (-1), .int 16, .ref tp, .int 0, .int 0, .int 0, .int 0, .int 0, .int 0])), (tp, .inl (cB, 300, .inl g_4))] H := hP
  have hD : va_D A [(h0, .inr (4, [.ref dr, .int 0, .int (-1), .int 16, .ref tp, .int 0, .int 0, .int 0, .int 0, .int 0, .int 0])), (tp, .inl (cB, 300, .inl g_4))] := hD
  refine lv_iinc (v := (-8)) (lv' := [(2, .int (-8)), (0, .ref h0), (1, .int v)]) hx hb dX4_append_40 hl (k := 0) rfl (by decide) (by decide) rfl (fun ls hl => ?_)
  refine lv_goto (tgt := 3) hx hb dX4_append_43 (by decide) ?_
  refine lv_iload_n hx hb dX4_append_3 rfl (lv_at hl 0 rfl) ?_
  refine lv_if_lt (tgt := 46) hx hb dX4_append_4 (by decide) (fun _ => ?_) (fun h => absurd (by decide) h)
  have hP9 := hP.sub (ws' := [(h0, .inr (4, [.ref dr, .int 0, .int (-1), .int 16, .ref tp, .int 0, .int 0, .int 0, .int 0, .int 0, .int 0])), (tp, .inl (cB, 300, .inl g_4))]) [0, 1] rfl
  have hD9 := hD.sub (ws' := [(h0, .inr (4, [.ref dr, .int 0, .int (-1), .int 16, .ref tp, .int 0, .int 0, .int 0, .int 0, .int 0, .int 0])), (tp, .inl (cB, 300, .inl g_4))]) [0, 1] (by decide) rfl
  exact W.vret hx hb hr (fun t ht hW => ⟨⟨g_4, rfl, trivial, by rw [ht]; exact hP9, va_K.moved hW.alike hK, hD9⟩, hS.F ht⟩) hS.2.2 dX4_append_46

set_option maxHeartbeats 4000000 in
set_option maxRecDepth 100000 in
/-- four bytes more, at 16 -/
theorem k_X4_app16 (l : Launch) (D : va_G) (cB cI cJ cZ : ClassId) (sz : Nat) (h0 dr tp : Nat) (f : Nat → Int32) (v : Int32) : Met l yX4_append wsX4_append ({ frames := 0, cells := 0, slots := 0, locals := 0 } : Room) (cPre D (aTy cB cI cJ cZ) [(h0, .inr (4, [.ref dr, .int 0, .int (-1), .int 16, .ref tp, .int 0, .int 0, .int 0, .int 0, .int 0, .int 0])), (tp, .inl (cB, 300, .inl f))] sz [.ref h0, .int v]) (va_Qv (fun (u : Nat → Int32) => True) (cB_ D (aTy cB cI cJ cZ) (va_A [(h0, .inr (4, [.ref dr, .int 0, .int (-1), .int 16, .ref tp, .int 0, .int 0, .int 0, .int 0, .int 0, .int 0])), (tp, .inl (cB, 300, .inl f))] sz) (fun g => [(h0, .inr (4, [.ref dr, .int 0, .int (-1), .int 20, .ref tp, .int 0, .int 0, .int 0, .int 0, .int 0, .int 0])), (tp, .inl (cB, 300, .inl g))])) (va_A [(h0, .inr (4, [.ref dr, .int 0, .int (-1), .int 16, .ref tp, .int 0, .int 0, .int 0, .int 0, .int 0, .int 0])), (tp, .inl (cB, 300, .inl f))] sz)) 0 0 (va_A [(h0, .inr (4, [.ref dr, .int 0, .int (-1), .int 16, .ref tp, .int 0, .int 0, .int 0, .int 0, .int 0, .int 0])), (tp, .inl (cB, 300, .inl f))] sz) := by
  refine Met.ofW (cc := cX4_append) (maxL := 3) (ret := none) (by decide) rfl ?_
  intro p e s m args below meth c s₁ B hml hv
  obtain ⟨rfl, hsz, hP, hK, hD0⟩ := hv
  have hx := B.exec
  have hb := B.bytes
  have hr := B.returns
  have hts := atoms_spec (ws := wsX4_append) B.pre
  have hown : s.vm.findClass RX4 = some m.cls := findClass_of_methodNamed B.named
  have hlocks := B.notSynchronized
  subst hsz
  have hD := hD0.self (sz := s.heap.size)
  generalize hAe : va_A [(h0, .inr (4, [.ref dr, .int 0, .int (-1), .int 16, .ref tp, .int 0, .int 0, .int 0, .int 0, .int 0, .int 0])), (tp, .inl (cB, 300, .inl f))] s.heap.size = A at hD ⊢
  have hA : ∀ q : Nat, s.heap.size ≤ q → A q := fun q h => by rw [← hAe]; exact Or.inr h
  have hS : va_S A s.heap s.heap [] := va_S.rf
  have hP : va_P D vwCl [(h0, .inr (4, [.ref dr, .int 0, .int (-1), .int 16, .ref tp, .int 0, .int 0, .int 0, .int 0, .int 0, .int 0])), (tp, .inl (cB, 300, .inl f))] s.heap := hP
  have w_1 : ∀ w ∈ wsX40, w ∈ wsX4_append := by decide +kernel
  have w_2 := hts (Cond.fieldLink RX4 29 "BlueCoats$Reader" "taped" "I") (by decide +kernel)
  have w_3 := hts (Cond.fieldLink RX4 25 "BlueCoats$Reader" "tape" "[B") (by decide +kernel)
  have hl := lv_entry ([.ref h0, .int v]) (n := 3) (Nat.le_of_ble_eq_true rfl)
  rw [lg_entry_eq]
  generalize (lg_sl ([.ref h0, .int v]) ++ List.replicate (3 - (lg_sl ([.ref h0, .int v])).length) Slot.unset).toArray = ls at hl ⊢
  have hl : lv_has ls 3 [(0, .ref h0), (1, .int v)] := hl
  refine lv_bipush (v := 24) hx hb dX4_append_0 (by decide) ?_
  refine lv_istore_n (lv' := [(2, .int 24), (0, .ref h0), (1, .int v)]) hx hb dX4_append_2 rfl hl (by decide) rfl (fun ls hl => ?_)
  refine lv_iload_n hx hb dX4_append_3 rfl (lv_at hl 0 rfl) ?_
  refine lv_if_lt (tgt := 46) hx hb dX4_append_4 (by decide) (fun h => absurd h (by decide)) (fun _ => ?_)
  refine lv_aload_n hx hb dX4_append_7 rfl (lv_at hl 1 rfl) ?_
  refine va_get (D := D) (ci := 4) (v := .int 16) (C := RX4) (T := TX4) (N := 11) hx hb hts w_1 hown hK hP 0 rfl rfl 3 (by decide) w_2 (fun _ h9 => h9) rfl dX4_append_8 ?_
  refine lv_sipush (v := 300) hx hb dX4_append_11 (by decide) ?_
  refine lv_icmp_ge (tgt := 40) hx hb dX4_append_14 (by decide) (fun h => absurd h (by decide)) (fun _ => ?_)
  refine lv_aload_n hx hb dX4_append_17 rfl (lv_at hl 1 rfl) ?_
  refine va_get (D := D) (ci := 4) (v := .ref tp) (C := RX4) (T := TX4) (N := 11) hx hb hts w_1 hown hK hP 0 rfl rfl 4 (by decide) w_3 (fun _ h9 => h9) rfl dX4_append_18 ?_
  refine lv_aload_n hx hb dX4_append_21 rfl (lv_at hl 1 rfl) ?_
  refine va_get (D := D) (ci := 4) (v := .int 16) (C := RX4) (T := TX4) (N := 11) hx hb hts w_1 hown hK hP 0 rfl rfl 3 (by decide) w_2 (fun _ h9 => h9) rfl dX4_append_22 ?_
  refine lv_iload_n hx hb dX4_append_25 rfl (lv_at hl 2 rfl) ?_
  refine lv_iload_n hx hb dX4_append_26 rfl (lv_at hl 0 rfl) ?_
  refine lv_iushr (v := (v.toUInt32 >>> ((24 : Int32).toUInt32 &&& Int32.toUInt32 31)).toInt32) hx hb dX4_append_27 rfl ?_
  refine lv_i2b (v := ((v.toUInt32 >>> ((24 : Int32).toUInt32 &&& Int32.toUInt32 31)).toInt32).toInt8.toInt32) hx hb dX4_append_28 rfl ?_
  refine sv_bast hx hb hK hP hD hS 1 0 rfl rfl (vp_in_iff.mpr (by decide)) dX4_append_29 (fun g_1 H locs eg_1 hP hD hS => ?_)
  have hP : va_P D vwCl [(h0, .inr (4, [.ref dr, .int 0, .int (-1), .int 16, .ref tp, .int 0, .int 0, .int 0, .int 0, .int 0, .int 0])), (tp, .inl (cB, 300, .inl g_1))] H := hP
  have hD : va_D A [(h0, .inr (4, [.ref dr, .int 0, .int (-1), .int 16, .ref tp, .int 0, .int 0, .int 0, .int 0, .int 0, .int 0])), (tp, .inl (cB, 300, .inl g_1))] := hD
  refine lv_aload_n hx hb dX4_append_30 rfl (lv_at hl 1 rfl) ?_
  refine lv_dup hx hb dX4_append_31 rfl ?_
  refine va_get (D := D) (ci := 4) (v := .int 16) (C := RX4) (T := TX4) (N := 11) hx hb hts w_1 hown hK hP 0 rfl rfl 3 (by decide) w_2 (fun _ h9 => h9) rfl dX4_append_32 ?_
  refine lv_iconst (v := 1) hx hb dX4_append_35 (by decide) ?_
  refine sv_iadd (v := 17) hx hb dX4_append_36 (by decide) ?_
  refine va_put (D := D) (ci := 4) (v := .int 17) (ty := .int) (C := RX4) (T := TX4) (N := 11) hx hb hts w_1 tyX4 tyX4_ok nmX4 hown hK hP hD hS 0 rfl rfl 3 (by decide) w_2 (fun _ h9 => h9) rfl (by decide +kernel) rfl rfl (Nat.le_of_ble_eq_true rfl) dX4_append_37 (fun H locs hP hD hS => ?_)
  have hP : va_P D vwCl [(h0, .inr (4, [.ref dr, .int 0, .int (-1), .int 17, .ref tp, .int 0, .int 0, .int 0, .int 0, .int 0, .int 0])), (tp, .inl (cB, 300, .inl g_1))] H := hP
  have hD : va_D A [(h0, .inr (4, [.ref dr, .int 0, .int (-1), .int 17, .ref tp, .int 0, .int 0, .int 0, .int 0, .int 0, .int 0])), (tp, .inl (cB, 300, .inl g_1))] := hD
  refine lv_iinc (v := 16) (lv' := [(2, .int 16), (0, .ref h0), (1, .int v)]) hx hb dX4_append_40 hl (k := 0) rfl (by decide) (by decide) rfl (fun ls hl => ?_)
  refine lv_goto (tgt := 3) hx hb dX4_append_43 (by decide) ?_
  refine lv_iload_n hx hb dX4_append_3 rfl (lv_at hl 0 rfl) ?_
  refine lv_if_lt (tgt := 46) hx hb dX4_append_4 (by decide) (fun h => absurd h (by decide)) (fun _ => ?_)
  refine lv_aload_n hx hb dX4_append_7 rfl (lv_at hl 1 rfl) ?_
  refine va_get (D := D) (ci := 4) (v := .int 17) (C := RX4) (T := TX4) (N := 11) hx hb hts w_1 hown hK hP 0 rfl rfl 3 (by decide) w_2 (fun _ h9 => h9) rfl dX4_append_8 ?_
  refine lv_sipush (v := 300) hx hb dX4_append_11 (by decide) ?_
  refine lv_icmp_ge (tgt := 40) hx hb dX4_append_14 (by decide) (fun h => absurd h (by decide)) (fun _ => ?_)
  refine lv_aload_n hx hb dX4_append_17 rfl (lv_at hl 1 rfl) ?_
  refine va_get (D := D) (ci := 4) (v := .ref tp) (C := RX4) (T := TX4) (N := 11) hx hb hts w_1 hown hK hP 0 rfl rfl 4 (by decide) w_3 (fun _ h9 => h9) rfl dX4_append_18 ?_
  refine lv_aload_n hx hb dX4_append_21 rfl (lv_at hl 1 rfl) ?_
  refine va_get (D := D) (ci := 4) (v := .int 17) (C := RX4) (T := TX4) (N := 11) hx hb hts w_1 hown hK hP 0 rfl rfl 3 (by decide) w_2 (fun _ h9 => h9) rfl dX4_append_22 ?_
  refine lv_iload_n hx hb dX4_append_25 rfl (lv_at hl 2 rfl) ?_
  refine lv_iload_n hx hb dX4_append_26 rfl (lv_at hl 0 rfl) ?_
  refine lv_iushr (v := (v.toUInt32 >>> ((16 : Int32).toUInt32 &&& Int32.toUInt32 31)).toInt32) hx hb dX4_append_27 rfl ?_
  refine lv_i2b (v := ((v.toUInt32 >>> ((16 : Int32).toUInt32 &&& Int32.toUInt32 31)).toInt32).toInt8.toInt32) hx hb dX4_append_28 rfl ?_
  refine sv_bast hx hb hK hP hD hS 1 0 rfl rfl (vp_in_iff.mpr (by decide)) dX4_append_29 (fun g_2 H locs eg_2 hP hD hS => ?_)
  have hP : va_P D vwCl [(h0, .inr (4, [.ref dr, .int 0, .int (-1), .int 17, .ref tp, .int 0, .int 0, .int 0, .int 0, .int 0, .int 0])), (tp, .inl (cB, 300, .inl g_2))] H := hP
  have hD : va_D A [(h0, .inr (4, [.ref dr, .int 0, .int (-1), .int 17, .ref tp, .int 0, .int 0, .int 0, .int 0, .int 0, .int 0])), (tp, .inl (cB, 300, .inl g_2))] := hD
  refine lv_aload_n hx hb dX4_append_30 rfl (lv_at hl 1 rfl) ?_
  refine lv_dup hx hb dX4_append_31 rfl ?_
  refine va_get (D := D) (ci := 4) (v := .int 17) (C := RX4) (T := TX4) (N := 11) hx hb hts w_1 hown hK hP 0 rfl rfl 3 (by decide) w_2 (fun _ h9 => h9) rfl dX4_append_32 ?_
  refine lv_iconst (v := 1) hx hb dX4_append_35 (by decide) ?_
  refine sv_iadd (v := 18) hx hb dX4_append_36 (by decide) ?_
  refine va_put (D := D) (ci := 4) (v := .int 18) (ty := .int) (C := RX4) (T := TX4) (N := 11) hx hb hts w_1 tyX4 tyX4_ok nmX4 hown hK hP hD hS 0 rfl rfl 3 (by decide) w_2 (fun _ h9 => h9) rfl (by decide +kernel) rfl rfl (Nat.le_of_ble_eq_true rfl) dX4_append_37 (fun H locs hP hD hS => ?_)
  have hP : va_P D vwCl [(h0, .inr (4, [.ref dr, .int 0, .int (-1), .int 18, .ref tp, .int 0, .int 0, .int 0, .int 0, .int 0, .int 0])), (tp, .inl (cB, 300, .inl g_2))] H := hP
  have hD : va_D A [(h0, .inr (4, [.ref dr, .int 0, .int (-1), .int 18, .ref tp, .int 0, .int 0, .int 0, .int 0, .int 0, .int 0])), (tp, .inl (cB, 300, .inl g_2))] := hD
  refine lv_iinc (v := 8) (lv' := [(2, .int 8), (0, .ref h0), (1, .int v)]) hx hb dX4_append_40 hl (k := 0) rfl (by decide) (by decide) rfl (fun ls hl => ?_)
  refine lv_goto (tgt := 3) hx hb dX4_append_43 (by decide) ?_
  refine lv_iload_n hx hb dX4_append_3 rfl (lv_at hl 0 rfl) ?_
  refine lv_if_lt (tgt := 46) hx hb dX4_append_4 (by decide) (fun h => absurd h (by decide)) (fun _ => ?_)
  refine lv_aload_n hx hb dX4_append_7 rfl (lv_at hl 1 rfl) ?_
  refine va_get (D := D) (ci := 4) (v := .int 18) (C := RX4) (T := TX4) (N := 11) hx hb hts w_1 hown hK hP 0 rfl rfl 3 (by decide) w_2 (fun _ h9 => h9) rfl dX4_append_8 ?_
  refine lv_sipush (v := 300) hx hb dX4_append_11 (by decide) ?_
  refine lv_icmp_ge (tgt := 40) hx hb dX4_append_14 (by decide) (fun h => absurd h (by decide)) (fun _ => ?_)
  refine lv_aload_n hx hb dX4_append_17 rfl (lv_at hl 1 rfl) ?_
  refine va_get (D := D) (ci := 4) (v := .ref tp) (C := RX4) (T := TX4) (N := 11) hx hb hts w_1 hown hK hP 0 rfl rfl 4 (by decide) w_3 (fun _ h9 => h9) rfl dX4_append_18 ?_
  refine lv_aload_n hx hb dX4_append_21 rfl (lv_at hl 1 rfl) ?_
  refine va_get (D := D) (ci := 4) (v := .int 18) (C := RX4) (T := TX4) (N := 11) hx hb hts w_1 hown hK hP 0 rfl rfl 3 (by decide) w_2 (fun _ h9 => h9) rfl dX4_append_22 ?_
  refine lv_iload_n hx hb dX4_append_25 rfl (lv_at hl 2 rfl) ?_
  refine lv_iload_n hx hb dX4_append_26 rfl (lv_at hl 0 rfl) ?_
  refine lv_iushr (v := (v.toUInt32 >>> ((8 : Int32).toUInt32 &&& Int32.toUInt32 31)).toInt32) hx hb dX4_append_27 rfl ?_
  refine lv_i2b (v := ((v.toUInt32 >>> ((8 : Int32).toUInt32 &&& Int32.toUInt32 31)).toInt32).toInt8.toInt32) hx hb dX4_append_28 rfl ?_
  refine sv_bast hx hb hK hP hD hS 1 0 rfl rfl (vp_in_iff.mpr (by decide)) dX4_append_29 (fun g_3 H locs eg_3 hP hD hS => ?_)
  have hP : va_P D vwCl [(h0, .inr (4, [.ref dr, .int 0, .int (-1), .int 18, .ref tp, .int 0, .int 0, .int 0, .int 0, .int 0, .int 0])), (tp, .inl (cB, 300, .inl g_3))] H := hP
  have hD : va_D A [(h0, .inr (4, [.ref dr, .int 0, .int (-1), .int 18, .ref tp, .int 0, .int 0, .int 0, .int 0, .int 0, .int 0])), (tp, .inl (cB, 300, .inl g_3))] := hD
  refine lv_aload_n hx hb dX4_append_30 rfl (lv_at hl 1 rfl) ?_
  refine lv_dup hx hb dX4_append_31 rfl ?_
  refine va_get (D := D) (ci := 4) (v := .int 18) (C := RX4) (T := TX4) (N := 11) hx hb hts w_1 hown hK hP 0 rfl rfl 3 (by decide) w_2 (fun _ h9 => h9) rfl dX4_append_32 ?_
  refine lv_iconst (v := 1) hx hb dX4_append_35 (by decide) ?_
  refine sv_iadd (v := 19) hx hb dX4_append_36 (by decide) ?_
  refine va_put (D := D) (ci := 4) (v := .int 19) (ty := .int) (C := RX4) (T := TX4) (N := 11) hx hb hts w_1 tyX4 tyX4_ok nmX4 hown hK hP hD hS 0 rfl rfl 3 (by decide) w_2 (fun _ h9 => h9) rfl (by decide +kernel) rfl rfl (Nat.le_of_ble_eq_true rfl) dX4_append_37 (fun H locs hP hD hS => ?_)
  have hP : va_P D vwCl [(h0, .inr (4, [.ref dr, .int 0, .int (-1), .int 19, .ref tp, .int 0, .int 0, .int 0, .int 0, .int 0, .int 0])), (tp, .inl (cB, 300, .inl g_3))] H := hP
  have hD : va_D A [(h0, .inr (4, [.ref dr, .int 0, .int (-1), .int 19, .ref tp, .int 0, .int 0, .int 0, .int 0, .int 0, .int 0])), (tp, .inl (cB, 300, .inl g_3))] := hD
  refine lv_iinc (v := 0) (lv' := [(2, .int 0), (0, .ref h0), (1, .int v)]) hx hb dX4_append_40 hl (k := 0) rfl (by decide) (by decide) rfl (fun ls hl => ?_)
  refine lv_goto (tgt := 3) hx hb dX4_append_43 (by decide) ?_
  refine lv_iload_n hx hb dX4_append_3 rfl (lv_at hl 0 rfl) ?_
  refine lv_if_lt (tgt := 46) hx hb dX4_append_4 (by decide) (fun h => absurd h (by decide)) (fun _ => ?_)
  refine lv_aload_n hx hb dX4_append_7 rfl (lv_at hl 1 rfl) ?_
  refine va_get (D := D) (ci := 4) (v := .int 19) (C := RX4) (T := TX4) (N := 11) hx hb hts w_1 hown hK hP 0 rfl rfl 3 (by decide) w_2 (fun _ h9 => h9) rfl dX4_append_8 ?_
  refine lv_sipush (v := 300) hx hb dX4_append_11 (by decide) ?_
  refine lv_icmp_ge (tgt := 40) hx hb dX4_append_14 (by decide) (fun h => absurd h (by decide)) (fun _ => ?_)
  refine lv_aload_n hx hb dX4_append_17 rfl (lv_at hl 1 rfl) ?_
  refine va_get (D := D) (ci := 4) (v := .ref tp) (C := RX4) (T := TX4) (N := 11) hx hb hts w_1 hown hK hP 0 rfl rfl 4 (by decide) w_3 (fun _ h9 => h9) rfl dX4_append_18 ?_
  refine lv_aload_n hx hb dX4_append_21 rfl (lv_at hl 1 rfl) ?_
  refine va_get (D := D) (ci := 4) (v := .int 19) (C := RX4) (T := TX4) (N := 11) hx hb hts w_1 hown hK hP 0 rfl rfl 3 (by decide) w_2 (fun _ h9 => h9) rfl dX4_append_22 ?_
  refine lv_iload_n hx hb dX4_append_25 rfl (lv_at hl 2 rfl) ?_
  refine lv_iload_n hx hb dX4_append_26 rfl (lv_at hl 0 rfl) ?_
  refine lv_iushr (v := (v.toUInt32 >>> ((0 : Int32).toUInt32 &&& Int32.toUInt32 31)).toInt32) hx hb dX4_append_27 rfl ?_
  refine lv_i2b (v := ((v.toUInt32 >>> ((0 : Int32).toUInt32 &&& Int32.toUInt32 31)).toInt32).toInt8.toInt32) hx hb dX4_append_28 rfl ?_
  refine sv_bast hx hb hK hP hD hS 1 0 rfl rfl (vp_in_iff.mpr (by decide)) dX4_append_29 (fun g_4 H locs eg_4 hP hD hS => ?_)
  have hP : va_P D vwCl [(h0, .inr (4, [.ref dr, .int 0, .int (-1), .int 19, .ref tp, .int 0, .int 0, .int 0, .int 0, .int 0, .int 0])), (tp, .inl (cB, 300, .inl g_4))] H := hP
  have hD : va_D A [(h0, .inr (4, [.ref dr, .int 0, .int (-1), .int 19, .ref tp, .int 0, .int 0, .int 0, .int 0, .int 0, .int 0])), (tp, .inl (cB, 300, .inl g_4))] := hD
  refine lv_aload_n hx hb dX4_append_30 rfl (lv_at hl 1 rfl) ?_
  refine lv_dup hx hb dX4_append_31 rfl ?_
  refine va_get (D := D) (ci := 4) (v := .int 19) (C := RX4) (T := TX4) (N := 11) hx hb hts w_1 hown hK hP 0 rfl rfl 3 (by decide) w_2 (fun _ h9 => h9) rfl dX4_append_32 ?_
  refine lv_iconst (v := 1) hx hb dX4_append_35 (by decide) ?_
  refine sv_iadd (v := 20) hx hb dX4_append_36 (by decide) ?_
  refine va_put (D := D) (ci := 4) (v := .int 20) (ty := .int) (C := RX4) (T := TX4) (N := 11) hx hb hts w_1 tyX4 tyX4_ok nmX4 hown hK hP hD hS 0 rfl rfl 3 (by decide) w_2 (fun _ h9 => h9) rfl (by decide +kernel) rfl rfl (Nat.le_of_ble_eq_true rfl) dX4_append_37 (fun H locs hP hD hS => ?_)
  have hP : va_P D vwCl [(h0, .inr (4, [.ref dr, .int 0, .int (-1), .int 20, .ref tp, .int 0, .int 0, .int 0, .int 0, .int 0, .int 0])), (tp, .inl (cB, 300, .inl g_4))] H := hP
  have hD : va_D A [(h0, .inr (4, [.ref dr, .int 0, .int (-1), .int 20, .ref tp, .int 0, .int 0, .int 0, .int 0, .int 0, .int 0])), (tp, .inl (cB, 300, .inl g_4))] := hD
  refine lv_iinc (v := (-8)) (lv' := [(2, .int (-8)), (0, .ref h0), (1, .int v)]) hx hb dX4_append_40 hl (k := 0) rfl (by decide) (by decide) rfl (fun ls hl => ?_)
  refine lv_goto (tgt := 3) hx hb dX4_append_43 (by decide) ?_
  refine lv_iload_n hx hb dX4_append_3 rfl (lv_at hl 0 rfl) ?_
  refine lv_if_lt (tgt := 46) hx hb dX4_append_4 (by decide) (fun _ => ?_) (fun h => absurd (by decide) h)
  have hP9 := hP.sub (ws' := [(h0, .inr (4, [.ref dr, .int 0, .int (-1), .int 20, .ref tp, .int 0, .int 0, .int 0, .int 0, .int 0, .int 0])), (tp, .inl (cB, 300, .inl g_4))]) [0, 1] rfl
  have hD9 := hD.sub (ws' := [(h0, .inr (4, [.ref dr, .int 0, .int (-1), .int 20, .ref tp, .int 0, .int 0, .int 0, .int 0, .int 0, .int 0])), (tp, .inl (cB, 300, .inl g_4))]) [0, 1] (by decide) rfl
  exact W.vret hx hb hr (fun t ht hW => ⟨⟨g_4, rfl, trivial, by rw [ht]; exact hP9, va_K.moved hW.alike hK, hD9⟩, hS.F ht⟩) hS.2.2 dX4_append_46
end
